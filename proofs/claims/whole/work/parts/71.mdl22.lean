/-! The model: joint, exact, strand, count -/
section MQ3
variable {h : Hp} {s : St}
theorem m_exact {j a p : Int} (I : MInv h s) (hj : I32 j) (hai : I32 a) (hp : I32 p) : Ev mX8_exact 5 0 (entL [.ref 0, iv j, iv a, iv p] 8) [] h (PM (aExact s j a p)) := by
  show Ev mX8_exact 5 0 [some (.ref 0), some (iv j), some (iv a), some (iv p), none, none, none, none] [] h _
  have TAIL : ∀ h, MInv h s → Ev mX8_exact 5 5 [some (.ref 0), some (iv j), some (iv a), some (iv p), none, none, none, none] [] h (PM (aExact s j a p)) := by
    intro h I
    have B := I.B
    have hv := B.vk
    have hJ := hv.1
    have i0 : I32 0 := ⟨by omega, by omega⟩
    have i1 : I32 1 := ⟨by omega, by omega⟩
    have i2 : I32 2 := ⟨by omega, by omega⟩
    by_cases c : isJ (sV s) j ∧ (0 ≤ a ∧ a ≤ 2) ∧ 0 ≤ p ∧ p ≤ 1
    · obtain ⟨c0, ca, cp⟩ := c
      by_cases ha : aH (sV s) (hgV (sV s))
      · have ea : aExact s j a p = ((if p = 0 then zA (sV s) j.toNat a.toNat else dB (sV s) (vN (sV s))).tdiv (gcdV (sV s) j.toNat a.toNat), s) := Prod.ext ((if_pos ⟨c0, ca, cp⟩).trans (cif_t ha)) rfl
        obtain ⟨n, rfl⟩ := Int.eq_ofNat_of_zero_le c0.1
        obtain ⟨b, rfl⟩ := Int.eq_ofNat_of_zero_le ca.1
        simp only [Int.toNat_natCast] at ea
        have hn : n < vJ (sV s) := by have := c0.2; omega
        have hb3 : b < 3 := by omega
        have zb := zA_b hv ha hn hb3
        have db := dB_b hv ha
        have dp := dB_pos hv ha (Nat.le_refl (vN (sV s)))
        have gp : 0 < gcdV (sV s) n b := by
          have := Nat.gcd_pos_of_pos_right (zA (sV s) n b).natAbs (show 0 < (dB (sV s) (vN (sV s))).natAbs by omega)
          unfold gcdV; omega
        have gl : gcdV (sV s) n b ≤ 384000000 := by
          have := Nat.gcd_le_right (zA (sV s) n b).natAbs (show 0 < (dB (sV s) (vN (sV s))).natAbs by omega)
          unfold gcdV; omega
        have q1 : ((3 : Int) * (n : Int) + (b : Int)).toNat = 3 * n + b := by omega
        have cC : ∀ g, Ev mX8_common 0 0 (entL [jv (zA (sV s) n b), jv (dB (sV s) (vN (sV s)))] 10) [] g (PEJ (gcdV (sV s) n b) g) := fun g => by
          have L := m_common (h := g) (x := zA (sV s) n b) (y := (dB (sV s) (vN (sV s))).natAbs) (by omega) (by omega)
          rw [show (((dB (sV s) (vN (sV s))).natAbs : Nat) : Int) = dB (sV s) (vN (sV s)) by omega] at L
          exact L
        refine Ev.aload_n dX8_exact_5 (Eq.refl 6) rfl ?_
        refine Ev.iload_n dX8_exact_6 (Eq.refl 7) rfl ?_
        refine Ev.cv1E dX8_exact_7 (Eq.refl 10) cw_X8_196 (Nat.le_of_ble_eq_true rfl) (by decide) rfl rfl rfl (Nat.le_of_ble_eq_true rfl) (q_isJoint B hj) ?_
        refine Ev.if_eqB (tgt := 31) dX8_exact_10 (Eq.refl 13) (by decide) (fun c10 => ?_) (fun c10 => ?_)
        · exact absurd c0 c10
        · refine Ev.iload_n dX8_exact_13 (Eq.refl 14) rfl ?_
          refine Ev.iconst dX8_exact_14 (Eq.refl 15) ?_
          refine Ev.iconst dX8_exact_15 (Eq.refl 16) ?_
          refine Ev.cs3E dX8_exact_16 (Eq.refl 19) cw_X8_73 (Nat.le_of_ble_eq_true rfl) (by decide) rfl (Nat.le_of_ble_eq_true rfl) (m_in (by assumption) (by assumption) (by assumption)) ?_
          refine Ev.if_eqB (tgt := 31) dX8_exact_19 (Eq.refl 22) (by decide) (fun c19 => ?_) (fun c19 => ?_)
          · exact absurd ca c19
          · refine Ev.iload_n dX8_exact_22 (Eq.refl 23) rfl ?_
            refine Ev.iconst dX8_exact_23 (Eq.refl 24) ?_
            refine Ev.iconst dX8_exact_24 (Eq.refl 25) ?_
            refine Ev.cs3E dX8_exact_25 (Eq.refl 28) cw_X8_73 (Nat.le_of_ble_eq_true rfl) (by decide) rfl (Nat.le_of_ble_eq_true rfl) (m_in (by assumption) (by assumption) (by assumption)) ?_
            refine Ev.if_neB (tgt := 34) dX8_exact_28 (Eq.refl 31) (by decide) (fun c28 => ?_) (fun c28 => ?_)
            · refine Ev.aload_n dX8_exact_34 (Eq.refl 35) rfl ?_
              refine Ev.cv0I dX8_exact_35 (Eq.refl 38) cw_X8_202 (Nat.le_of_ble_eq_true rfl) (by decide) rfl rfl rfl (Nat.le_of_ble_eq_true rfl) (q_lays B) (fun x35 g35 hp35 => ?_)
              have M := MS.of B hp35 ha
              obtain ⟨hK, rfl, h7, _⟩ := hp35
              have hR := M.1.1
              have e1 := (M.2.2.2 n b hn hb3).1
              have e2 := M.2.2.1
              refine Ev.if_neB (tgt := 44) dX8_exact_38 (Eq.refl 41) (by decide) (fun c38 => ?_) (fun c38 => ?_)
              · refine Ev.aload_n dX8_exact_44 (Eq.refl 45) rfl ?_
                refine Ev.getR dX8_exact_45 (Eq.refl 48) fg_X8_40 rfl rfl (rX8_16 hR) ?_
                refine Ev.iconst dX8_exact_48 (Eq.refl 49) ?_
                refine Ev.iload_n dX8_exact_49 (Eq.refl 50) rfl ?_
                refine Ev.imul dX8_exact_50 (Eq.refl 51) ?_
                refine Ev.iload_n dX8_exact_51 (Eq.refl 52) rfl ?_
                refine Ev.iadd dX8_exact_52 (Eq.refl 53) ?_
                refine Ev.laload dX8_exact_53 (Eq.refl 54) rfl rfl (by omega) (by decide) q1 ?_
                rw [e1]
                refine Ev.ls4 dX8_exact_54 (Eq.refl 56) (by decide) rfl ?_
                refine Ev.lload dX8_exact_56 (Eq.refl 58) rfl ?_
                refine Ev.aload_n dX8_exact_58 (Eq.refl 59) rfl ?_
                refine Ev.getL dX8_exact_59 (Eq.refl 62) fg_X8_156 rfl rfl ?_
                rw [e2]
                refine Ev.cs2F dX8_exact_62 (Eq.refl 65) cw_X8_218 (Nat.le_of_ble_eq_true rfl) (by decide) rfl (Nat.le_of_ble_eq_true rfl) (cC _) ?_
                refine Ev.ls6 dX8_exact_65 (Eq.refl 67) (by decide) rfl ?_
                refine Ev.iload_n dX8_exact_67 (Eq.refl 68) rfl ?_
                refine Ev.if_ne (tgt := 79) dX8_exact_68 (Eq.refl 71) (by decide) ⟨by omega, by omega⟩ (fun c68 => ?_) (fun c68 => ?_)
                · refine Ev.aload_n dX8_exact_79 (Eq.refl 80) rfl ?_
                  refine Ev.getL dX8_exact_80 (Eq.refl 83) fg_X8_156 rfl rfl ?_
                  rw [e2]
                  refine Ev.lload dX8_exact_83 (Eq.refl 85) rfl ?_
                  refine Ev.ldiv dX8_exact_85 (Eq.refl 86) ⟨by omega, by omega⟩ ⟨by omega, by omega⟩ (by omega) ?_
                  refine Ev.l2i dX8_exact_86 (Eq.refl 87) ?_
                  exact Ev.iret dX8_exact_87 rfl ((by rw [ea]; exact ⟨_, rfl, by first | rw [if_pos (by omega)] | rw [if_neg (by omega)], I.k hK.k⟩))
                · refine Ev.lload dX8_exact_71 (Eq.refl 73) rfl ?_
                  refine Ev.lload dX8_exact_73 (Eq.refl 75) rfl ?_
                  refine Ev.ldiv dX8_exact_75 (Eq.refl 76) ⟨by omega, by omega⟩ ⟨by omega, by omega⟩ (by omega) ?_
                  refine Ev.goto' (pc' := 86) dX8_exact_76 (by decide) ?_
                  refine Ev.l2i dX8_exact_86 (Eq.refl 87) ?_
                  exact Ev.iret dX8_exact_87 rfl ((by rw [ea]; exact ⟨_, rfl, by first | rw [if_pos (by omega)] | rw [if_neg (by omega)], I.k hK.k⟩))
              · exact absurd ha c38
            · exact absurd cp c28
      · have ea : aExact s j a p = (-2000000001, s) := Prod.ext ((if_pos ⟨c0, ca, cp⟩).trans (cif_f ha)) rfl
        refine Ev.aload_n dX8_exact_5 (Eq.refl 6) rfl ?_
        refine Ev.iload_n dX8_exact_6 (Eq.refl 7) rfl ?_
        refine Ev.cv1E dX8_exact_7 (Eq.refl 10) cw_X8_196 (Nat.le_of_ble_eq_true rfl) (by decide) rfl rfl rfl (Nat.le_of_ble_eq_true rfl) (q_isJoint B hj) ?_
        refine Ev.if_eqB (tgt := 31) dX8_exact_10 (Eq.refl 13) (by decide) (fun c10 => ?_) (fun c10 => ?_)
        · exact absurd c0 c10
        · refine Ev.iload_n dX8_exact_13 (Eq.refl 14) rfl ?_
          refine Ev.iconst dX8_exact_14 (Eq.refl 15) ?_
          refine Ev.iconst dX8_exact_15 (Eq.refl 16) ?_
          refine Ev.cs3E dX8_exact_16 (Eq.refl 19) cw_X8_73 (Nat.le_of_ble_eq_true rfl) (by decide) rfl (Nat.le_of_ble_eq_true rfl) (m_in (by assumption) (by assumption) (by assumption)) ?_
          refine Ev.if_eqB (tgt := 31) dX8_exact_19 (Eq.refl 22) (by decide) (fun c19 => ?_) (fun c19 => ?_)
          · exact absurd ca c19
          · refine Ev.iload_n dX8_exact_22 (Eq.refl 23) rfl ?_
            refine Ev.iconst dX8_exact_23 (Eq.refl 24) ?_
            refine Ev.iconst dX8_exact_24 (Eq.refl 25) ?_
            refine Ev.cs3E dX8_exact_25 (Eq.refl 28) cw_X8_73 (Nat.le_of_ble_eq_true rfl) (by decide) rfl (Nat.le_of_ble_eq_true rfl) (m_in (by assumption) (by assumption) (by assumption)) ?_
            refine Ev.if_neB (tgt := 34) dX8_exact_28 (Eq.refl 31) (by decide) (fun c28 => ?_) (fun c28 => ?_)
            · refine Ev.aload_n dX8_exact_34 (Eq.refl 35) rfl ?_
              refine Ev.cv0I dX8_exact_35 (Eq.refl 38) cw_X8_202 (Nat.le_of_ble_eq_true rfl) (by decide) rfl rfl rfl (Nat.le_of_ble_eq_true rfl) (q_lays B) (fun x35 g35 hp35 => ?_)
              obtain ⟨hK, rfl, h7, _⟩ := hp35
              refine Ev.if_neB (tgt := 44) dX8_exact_38 (Eq.refl 41) (by decide) (fun c38 => ?_) (fun c38 => ?_)
              · exact absurd c38 ha
              · refine Ev.ldc dX8_exact_41 (Eq.refl 43) kc_X8_217 ?_
                exact Ev.iret dX8_exact_43 rfl ((by rw [ea]; exact ⟨_, rfl, rfl, I.k hK.k⟩))
            · exact absurd cp c28
    · have ea : aExact s j a p = (-2000000000, s) := Prod.ext (if_neg c) rfl
      refine Ev.aload_n dX8_exact_5 (Eq.refl 6) rfl ?_
      refine Ev.iload_n dX8_exact_6 (Eq.refl 7) rfl ?_
      refine Ev.cv1E dX8_exact_7 (Eq.refl 10) cw_X8_196 (Nat.le_of_ble_eq_true rfl) (by decide) rfl rfl rfl (Nat.le_of_ble_eq_true rfl) (q_isJoint B hj) ?_
      refine Ev.if_eqB (tgt := 31) dX8_exact_10 (Eq.refl 13) (by decide) (fun c10 => ?_) (fun c10 => ?_)
      · refine Ev.ldc dX8_exact_31 (Eq.refl 33) kc_X8_216 ?_
        exact Ev.iret dX8_exact_33 rfl ((by rw [ea]; exact ⟨_, rfl, rfl, I⟩))
      · refine Ev.iload_n dX8_exact_13 (Eq.refl 14) rfl ?_
        refine Ev.iconst dX8_exact_14 (Eq.refl 15) ?_
        refine Ev.iconst dX8_exact_15 (Eq.refl 16) ?_
        refine Ev.cs3E dX8_exact_16 (Eq.refl 19) cw_X8_73 (Nat.le_of_ble_eq_true rfl) (by decide) rfl (Nat.le_of_ble_eq_true rfl) (m_in (by assumption) (by assumption) (by assumption)) ?_
        refine Ev.if_eqB (tgt := 31) dX8_exact_19 (Eq.refl 22) (by decide) (fun c19 => ?_) (fun c19 => ?_)
        · refine Ev.ldc dX8_exact_31 (Eq.refl 33) kc_X8_216 ?_
          exact Ev.iret dX8_exact_33 rfl ((by rw [ea]; exact ⟨_, rfl, rfl, I⟩))
        · refine Ev.iload_n dX8_exact_22 (Eq.refl 23) rfl ?_
          refine Ev.iconst dX8_exact_23 (Eq.refl 24) ?_
          refine Ev.iconst dX8_exact_24 (Eq.refl 25) ?_
          refine Ev.cs3E dX8_exact_25 (Eq.refl 28) cw_X8_73 (Nat.le_of_ble_eq_true rfl) (by decide) rfl (Nat.le_of_ble_eq_true rfl) (m_in (by assumption) (by assumption) (by assumption)) ?_
          refine Ev.if_neB (tgt := 34) dX8_exact_28 (Eq.refl 31) (by decide) (fun c28 => ?_) (fun c28 => ?_)
          · exact absurd ⟨c10, c19, c28⟩ c
          · refine Ev.ldc dX8_exact_31 (Eq.refl 33) kc_X8_216 ?_
            exact Ev.iret dX8_exact_33 rfl ((by rw [ea]; exact ⟨_, rfl, rfl, I⟩))
  refine Ev.aload_n dX8_exact_0 (Eq.refl 1) rfl ?_
  refine Ev.iconst dX8_exact_1 (Eq.refl 2) ?_
  refine Ev.putI dX8_exact_2 (Eq.refl 5) fp_X8_69 rfl rfl (Or.inl rfl) ?_
  exact TAIL _ (I.k (Mk.rf.w (by omega)))
theorem m_joint {j w : Int} (I : MInv h s) (hj : I32 j) (hw : I32 w) : Ev mX8_joint 5 0 (entL [.ref 0, iv j, iv w] 4) [] h (PM (aJoint s j w)) := by
  show Ev mX8_joint 5 0 [some (.ref 0), some (iv j), some (iv w), none] [] h _
  have TAIL : ∀ h, MInv h s → Ev mX8_joint 5 5 [some (.ref 0), some (iv j), some (iv w), none] [] h (PM (aJoint s j w)) := by
    intro h I
    have B := I.B
    have hv := B.vk
    have hJ := hv.1
    have i0 : I32 0 := ⟨by omega, by omega⟩
    have i7 : I32 7 := ⟨by omega, by omega⟩
    by_cases c : isJ (sV s) j ∧ 0 ≤ w ∧ w ≤ 7
    · obtain ⟨c0, cw⟩ := c
      have ea : aJoint s j w = (jnt (sV s) j.toNat w, s) := Prod.ext (if_pos ⟨c0, cw⟩) rfl
      obtain ⟨n, rfl⟩ := Int.eq_ofNat_of_zero_le c0.1
      rw [Int.toNat_natCast] at ea
      have hn : n < vJ (sV s) := by have := c0.2; omega
      have w0 : w = 0 → jnt (sV s) n w = if vF (sV s) n = true then 1 else 0 := fun z => if_pos z
      have w4 : w = 4 → jnt (sV s) n w = bits (fun i => i < vS (sV s) ∧ atH (sV s) n i) := fun z => by unfold jnt; rw [if_neg (by omega), if_pos z]
      have w5 : w = 5 → jnt (sV s) n w = vLd (sV s) n + 9 := fun z => by unfold jnt; rw [if_neg (by omega), if_neg (by omega), if_pos z]
      have w6 : w = 6 → jnt (sV s) n w = bi (hg (sV s) (hgV (sV s)) n) := fun z => by unfold jnt; rw [if_neg (by omega), if_neg (by omega), if_neg (by omega), if_pos z]
      have w7 : w = 7 → jnt (sV s) n w = cif (aH (sV s) (hgV (sV s))) (bi (vF (sV s) n = true → ∀ a, a < 3 → btw (sV s) n a)) (-2) := fun z => by unfold jnt; rw [if_neg (by omega), if_neg (by omega), if_neg (by omega), if_neg (by omega), if_pos z]
      have w1 : 1 ≤ w ∧ w ≤ 3 → jnt (sV s) n w = cif (aH (sV s) (hgV (sV s))) (hU (sV s) n (w - 1).toNat + 1000000) (-2) := fun z => by unfold jnt; rw [if_neg (by omega), if_neg (by omega), if_neg (by omega), if_neg (by omega), if_neg (by omega)]
      have GO : ∀ (g : Hp) (x : Int), LyP h (sV s) x g → Ev mX8_joint 5 29 [some (.ref 0), some (iv (n : Int)), some (iv w), none] [iv x] g (PM (aJoint s (n : Int) w)) := by
        intro g x hp
        have Ig : MInv g s := I.k hp.1.k
        have Bg := Ig.B
        have hR := Bg.1
        have hM := fun ha => MS.of B hp ha
        obtain ⟨hK, ex, h7, _⟩ := hp
        have x01 := bi01 (aH (sV s) (hgV (sV s)))
        rw [← ex] at x01
        have eK := gKind Bg.2.1 (j := n) (by rw [Bg.2.2]; exact hn)
        rw [Bg.2.2] at eK
        have eL : g.1 2 (44 + n) = vLd (sV s) n := by have := gL (f := g.1 2) (j := n) (by rw [Bg.s0]; omega); rw [Bg.2.2] at this; exact this
        have b7 := h7 n hn
        have b701 := bi01 (hg (sV s) (hgV (sV s)) n)
        have q4 : ((4 : Int) + (n : Int)).toNat = 4 + n := by omega
        have q44 : ((44 : Int) + (n : Int)).toNat = 44 + n := by omega
        by_cases ha : aH (sV s) (hgV (sV s))
        · have x1 : x = 1 := ex.trans (bi_t ha)
          have M := hM ha
          refine Ev.is3 dX8_joint_29 (Eq.refl 30) (by decide) rfl ?_
          refine Ev.iload_n dX8_joint_30 (Eq.refl 31) rfl ?_
          rcases (by omega : (w < 0 ∨ 7 < w) ∨ w = 0 ∨ w = 1 ∨ w = 2 ∨ w = 3 ∨ w = 4 ∨ w = 5 ∨ w = 6 ∨ w = 7) with c31 | c31 | c31 | c31 | c31 | c31 | c31 | c31 | c31
          · omega
          · refine Ev.tabIn (tgt := 76) (off := 45) dX8_joint_31 ⟨by omega, by omega⟩ (by omega) (by omega) (by rw [c31] <;> rfl) (by decide) ?_
            refine Ev.aload_n dX8_joint_76 (Eq.refl 77) rfl ?_
            refine Ev.getR dX8_joint_77 (Eq.refl 80) fg_X8_13 rfl rfl (rX8_3 hR) ?_
            refine Ev.iconst dX8_joint_80 (Eq.refl 81) ?_
            refine Ev.iload_n dX8_joint_81 (Eq.refl 82) rfl ?_
            refine Ev.iadd dX8_joint_82 (Eq.refl 83) ?_
            refine Ev.iaload dX8_joint_83 (Eq.refl 84) rfl rfl (by omega) (by decide) q4 ?_
            rw [eK]
            exact Ev.iret dX8_joint_84 rfl ((by rw [ea, w0 c31]; exact ⟨_, rfl, rfl, Ig⟩))
          · refine Ev.tabIn (tgt := 150) (off := 119) dX8_joint_31 ⟨by omega, by omega⟩ (by omega) (by omega) (by rw [c31] <;> rfl) (by decide) ?_
            refine Ev.iload_n dX8_joint_150 (Eq.refl 151) rfl ?_
            refine Ev.if_eq (tgt := 172) dX8_joint_151 (Eq.refl 154) (by decide) ⟨by omega, by omega⟩ (fun c151 => ?_) (fun c151 => ?_)
            · omega
            · refine Ev.aload_n dX8_joint_154 (Eq.refl 155) rfl ?_
              refine Ev.getR dX8_joint_155 (Eq.refl 158) fg_X8_43 rfl rfl (rX8_17 hR) ?_
              refine Ev.iconst dX8_joint_158 (Eq.refl 159) ?_
              refine Ev.iload_n dX8_joint_159 (Eq.refl 160) rfl ?_
              refine Ev.imul dX8_joint_160 (Eq.refl 161) ?_
              refine Ev.iload_n dX8_joint_161 (Eq.refl 162) rfl ?_
              refine Ev.iadd dX8_joint_162 (Eq.refl 163) ?_
              refine Ev.iconst dX8_joint_163 (Eq.refl 164) ?_
              refine Ev.isub dX8_joint_164 (Eq.refl 165) ?_
              refine Ev.iaload dX8_joint_165 (Eq.refl 166) rfl rfl (by omega) (by decide) (show ((3 : Int) * (n : Int) + w - 1).toNat = 3 * n + (w - 1).toNat by omega) ?_
              rw [(M.2.2.2 n (w - 1).toNat hn (by omega)).2]
              refine Ev.ldc dX8_joint_166 (Eq.refl 168) kc_X8_215 ?_
              refine Ev.iadd dX8_joint_168 (Eq.refl 169) ?_
              refine Ev.goto' (pc' := 174) dX8_joint_169 (by decide) ?_
              exact Ev.iret dX8_joint_174 rfl ((by rw [ea, w1 (by omega), cif_t ha]; exact ⟨_, rfl, rfl, Ig⟩))
          · refine Ev.tabIn (tgt := 150) (off := 119) dX8_joint_31 ⟨by omega, by omega⟩ (by omega) (by omega) (by rw [c31] <;> rfl) (by decide) ?_
            refine Ev.iload_n dX8_joint_150 (Eq.refl 151) rfl ?_
            refine Ev.if_eq (tgt := 172) dX8_joint_151 (Eq.refl 154) (by decide) ⟨by omega, by omega⟩ (fun c151 => ?_) (fun c151 => ?_)
            · omega
            · refine Ev.aload_n dX8_joint_154 (Eq.refl 155) rfl ?_
              refine Ev.getR dX8_joint_155 (Eq.refl 158) fg_X8_43 rfl rfl (rX8_17 hR) ?_
              refine Ev.iconst dX8_joint_158 (Eq.refl 159) ?_
              refine Ev.iload_n dX8_joint_159 (Eq.refl 160) rfl ?_
              refine Ev.imul dX8_joint_160 (Eq.refl 161) ?_
              refine Ev.iload_n dX8_joint_161 (Eq.refl 162) rfl ?_
              refine Ev.iadd dX8_joint_162 (Eq.refl 163) ?_
              refine Ev.iconst dX8_joint_163 (Eq.refl 164) ?_
              refine Ev.isub dX8_joint_164 (Eq.refl 165) ?_
              refine Ev.iaload dX8_joint_165 (Eq.refl 166) rfl rfl (by omega) (by decide) (show ((3 : Int) * (n : Int) + w - 1).toNat = 3 * n + (w - 1).toNat by omega) ?_
              rw [(M.2.2.2 n (w - 1).toNat hn (by omega)).2]
              refine Ev.ldc dX8_joint_166 (Eq.refl 168) kc_X8_215 ?_
              refine Ev.iadd dX8_joint_168 (Eq.refl 169) ?_
              refine Ev.goto' (pc' := 174) dX8_joint_169 (by decide) ?_
              exact Ev.iret dX8_joint_174 rfl ((by rw [ea, w1 (by omega), cif_t ha]; exact ⟨_, rfl, rfl, Ig⟩))
          · refine Ev.tabIn (tgt := 150) (off := 119) dX8_joint_31 ⟨by omega, by omega⟩ (by omega) (by omega) (by rw [c31] <;> rfl) (by decide) ?_
            refine Ev.iload_n dX8_joint_150 (Eq.refl 151) rfl ?_
            refine Ev.if_eq (tgt := 172) dX8_joint_151 (Eq.refl 154) (by decide) ⟨by omega, by omega⟩ (fun c151 => ?_) (fun c151 => ?_)
            · omega
            · refine Ev.aload_n dX8_joint_154 (Eq.refl 155) rfl ?_
              refine Ev.getR dX8_joint_155 (Eq.refl 158) fg_X8_43 rfl rfl (rX8_17 hR) ?_
              refine Ev.iconst dX8_joint_158 (Eq.refl 159) ?_
              refine Ev.iload_n dX8_joint_159 (Eq.refl 160) rfl ?_
              refine Ev.imul dX8_joint_160 (Eq.refl 161) ?_
              refine Ev.iload_n dX8_joint_161 (Eq.refl 162) rfl ?_
              refine Ev.iadd dX8_joint_162 (Eq.refl 163) ?_
              refine Ev.iconst dX8_joint_163 (Eq.refl 164) ?_
              refine Ev.isub dX8_joint_164 (Eq.refl 165) ?_
              refine Ev.iaload dX8_joint_165 (Eq.refl 166) rfl rfl (by omega) (by decide) (show ((3 : Int) * (n : Int) + w - 1).toNat = 3 * n + (w - 1).toNat by omega) ?_
              rw [(M.2.2.2 n (w - 1).toNat hn (by omega)).2]
              refine Ev.ldc dX8_joint_166 (Eq.refl 168) kc_X8_215 ?_
              refine Ev.iadd dX8_joint_168 (Eq.refl 169) ?_
              refine Ev.goto' (pc' := 174) dX8_joint_169 (by decide) ?_
              exact Ev.iret dX8_joint_174 rfl ((by rw [ea, w1 (by omega), cif_t ha]; exact ⟨_, rfl, rfl, Ig⟩))
          · refine Ev.tabIn (tgt := 85) (off := 54) dX8_joint_31 ⟨by omega, by omega⟩ (by omega) (by omega) (by rw [c31] <;> rfl) (by decide) ?_
            refine Ev.aload_n dX8_joint_85 (Eq.refl 86) rfl ?_
            refine Ev.iload_n dX8_joint_86 (Eq.refl 87) rfl ?_
            refine Ev.cv1E dX8_joint_87 (Eq.refl 90) cw_X8_209 (Nat.le_of_ble_eq_true rfl) (by decide) rfl rfl rfl (Nat.le_of_ble_eq_true rfl) (q_bitsOf Bg hn) ?_
            exact Ev.iret dX8_joint_90 rfl ((by rw [ea, w4 c31]; exact ⟨_, rfl, rfl, Ig⟩))
          · refine Ev.tabIn (tgt := 91) (off := 60) dX8_joint_31 ⟨by omega, by omega⟩ (by omega) (by omega) (by rw [c31] <;> rfl) (by decide) ?_
            refine Ev.aload_n dX8_joint_91 (Eq.refl 92) rfl ?_
            refine Ev.getR dX8_joint_92 (Eq.refl 95) fg_X8_13 rfl rfl (rX8_3 hR) ?_
            refine Ev.bipush dX8_joint_95 (Eq.refl 97) (by decide) ?_
            refine Ev.iload_n dX8_joint_97 (Eq.refl 98) rfl ?_
            refine Ev.iadd dX8_joint_98 (Eq.refl 99) ?_
            refine Ev.iaload dX8_joint_99 (Eq.refl 100) rfl rfl (by omega) (by decide) q44 ?_
            rw [eL]
            refine Ev.bipush dX8_joint_100 (Eq.refl 102) (by decide) ?_
            refine Ev.iadd dX8_joint_102 (Eq.refl 103) ?_
            exact Ev.iret dX8_joint_103 rfl ((by rw [ea, w5 c31]; exact ⟨_, rfl, rfl, Ig⟩))
          · refine Ev.tabIn (tgt := 104) (off := 73) dX8_joint_31 ⟨by omega, by omega⟩ (by omega) (by omega) (by rw [c31] <;> rfl) (by decide) ?_
            refine Ev.aload_n dX8_joint_104 (Eq.refl 105) rfl ?_
            refine Ev.getR dX8_joint_105 (Eq.refl 108) fg_X8_29 rfl rfl (rX8_11 hR) ?_
            refine Ev.iload_n dX8_joint_108 (Eq.refl 109) rfl ?_
            refine Ev.zaload dX8_joint_109 (Eq.refl 110) rfl rfl (by omega) (by decide) (by first | with_reducible exact Int.toNat_natCast _ | exact Eq.refl _) ?_
            rw [b7]
            refine Ev.if_eq (tgt := 117) dX8_joint_110 (Eq.refl 113) (by decide) (biR _) (fun c110 => ?_) (fun c110 => ?_)
            · refine Ev.iconst dX8_joint_117 (Eq.refl 118) ?_
              exact Ev.iret dX8_joint_118 rfl ((by rw [ea, w6 c31]; exact ⟨_, rfl, by show _ = bi _; omega, Ig⟩))
            · refine Ev.iconst dX8_joint_113 (Eq.refl 114) ?_
              refine Ev.goto' (pc' := 118) dX8_joint_114 (by decide) ?_
              exact Ev.iret dX8_joint_118 rfl ((by rw [ea, w6 c31]; exact ⟨_, rfl, by show _ = bi _; omega, Ig⟩))
          · refine Ev.tabIn (tgt := 119) (off := 88) dX8_joint_31 ⟨by omega, by omega⟩ (by omega) (by omega) (by rw [c31] <;> rfl) (by decide) ?_
            refine Ev.iload_n dX8_joint_119 (Eq.refl 120) rfl ?_
            refine Ev.if_ne (tgt := 128) dX8_joint_120 (Eq.refl 123) (by decide) ⟨by omega, by omega⟩ (fun c120 => ?_) (fun c120 => ?_)
            · refine Ev.aload_n dX8_joint_128 (Eq.refl 129) rfl ?_
              refine Ev.iload_n dX8_joint_129 (Eq.refl 130) rfl ?_
              refine Ev.cv1E dX8_joint_130 (Eq.refl 133) cw_X8_134 (Nat.le_of_ble_eq_true rfl) (by decide) rfl rfl rfl (Nat.le_of_ble_eq_true rfl) (q_free Bg hn) ?_
              refine Ev.if_eqB (tgt := 144) dX8_joint_133 (Eq.refl 136) (by decide) (fun c133 => ?_) (fun c133 => ?_)
              · refine Ev.iconst dX8_joint_144 (Eq.refl 145) ?_
                refine Ev.goto' (pc' := 149) dX8_joint_145 (by decide) ?_
                exact Ev.iret dX8_joint_149 rfl ((by rw [ea, w7 c31, cif_t ha]; exact ⟨_, rfl, by show _ = bi _; first | exact (bi_t (fun z => absurd z c133)).symm | exact (bi_t (fun _ => c141)).symm | exact (bi_f (fun z => c141 (z c133))).symm, Ig⟩))
              · refine Ev.aload_n dX8_joint_136 (Eq.refl 137) rfl ?_
                refine Ev.iload_n dX8_joint_137 (Eq.refl 138) rfl ?_
                refine Ev.cv1E dX8_joint_138 (Eq.refl 141) cw_X8_212 (Nat.le_of_ble_eq_true rfl) (by decide) rfl rfl rfl (Nat.le_of_ble_eq_true rfl) (q_within M hn) ?_
                refine Ev.if_eqB (tgt := 148) dX8_joint_141 (Eq.refl 144) (by decide) (fun c141 => ?_) (fun c141 => ?_)
                · refine Ev.iconst dX8_joint_148 (Eq.refl 149) ?_
                  exact Ev.iret dX8_joint_149 rfl ((by rw [ea, w7 c31, cif_t ha]; exact ⟨_, rfl, by show _ = bi _; first | exact (bi_t (fun z => absurd z c133)).symm | exact (bi_t (fun _ => c141)).symm | exact (bi_f (fun z => c141 (z c133))).symm, Ig⟩))
                · refine Ev.iconst dX8_joint_144 (Eq.refl 145) ?_
                  refine Ev.goto' (pc' := 149) dX8_joint_145 (by decide) ?_
                  exact Ev.iret dX8_joint_149 rfl ((by rw [ea, w7 c31, cif_t ha]; exact ⟨_, rfl, by show _ = bi _; first | exact (bi_t (fun z => absurd z c133)).symm | exact (bi_t (fun _ => c141)).symm | exact (bi_f (fun z => c141 (z c133))).symm, Ig⟩))
            · omega
        · have x0 : x = 0 := ex.trans (bi_f ha)
          refine Ev.is3 dX8_joint_29 (Eq.refl 30) (by decide) rfl ?_
          refine Ev.iload_n dX8_joint_30 (Eq.refl 31) rfl ?_
          rcases (by omega : (w < 0 ∨ 7 < w) ∨ w = 0 ∨ w = 1 ∨ w = 2 ∨ w = 3 ∨ w = 4 ∨ w = 5 ∨ w = 6 ∨ w = 7) with c31 | c31 | c31 | c31 | c31 | c31 | c31 | c31 | c31
          · omega
          · refine Ev.tabIn (tgt := 76) (off := 45) dX8_joint_31 ⟨by omega, by omega⟩ (by omega) (by omega) (by rw [c31] <;> rfl) (by decide) ?_
            refine Ev.aload_n dX8_joint_76 (Eq.refl 77) rfl ?_
            refine Ev.getR dX8_joint_77 (Eq.refl 80) fg_X8_13 rfl rfl (rX8_3 hR) ?_
            refine Ev.iconst dX8_joint_80 (Eq.refl 81) ?_
            refine Ev.iload_n dX8_joint_81 (Eq.refl 82) rfl ?_
            refine Ev.iadd dX8_joint_82 (Eq.refl 83) ?_
            refine Ev.iaload dX8_joint_83 (Eq.refl 84) rfl rfl (by omega) (by decide) q4 ?_
            rw [eK]
            exact Ev.iret dX8_joint_84 rfl ((by rw [ea, w0 c31]; exact ⟨_, rfl, rfl, Ig⟩))
          · refine Ev.tabIn (tgt := 150) (off := 119) dX8_joint_31 ⟨by omega, by omega⟩ (by omega) (by omega) (by rw [c31] <;> rfl) (by decide) ?_
            refine Ev.iload_n dX8_joint_150 (Eq.refl 151) rfl ?_
            refine Ev.if_eq (tgt := 172) dX8_joint_151 (Eq.refl 154) (by decide) ⟨by omega, by omega⟩ (fun c151 => ?_) (fun c151 => ?_)
            · refine Ev.bipush dX8_joint_172 (Eq.refl 174) (by decide) ?_
              exact Ev.iret dX8_joint_174 rfl ((by rw [ea, w1 (by omega), cif_f ha]; exact ⟨_, rfl, rfl, Ig⟩))
            · omega
          · refine Ev.tabIn (tgt := 150) (off := 119) dX8_joint_31 ⟨by omega, by omega⟩ (by omega) (by omega) (by rw [c31] <;> rfl) (by decide) ?_
            refine Ev.iload_n dX8_joint_150 (Eq.refl 151) rfl ?_
            refine Ev.if_eq (tgt := 172) dX8_joint_151 (Eq.refl 154) (by decide) ⟨by omega, by omega⟩ (fun c151 => ?_) (fun c151 => ?_)
            · refine Ev.bipush dX8_joint_172 (Eq.refl 174) (by decide) ?_
              exact Ev.iret dX8_joint_174 rfl ((by rw [ea, w1 (by omega), cif_f ha]; exact ⟨_, rfl, rfl, Ig⟩))
            · omega
          · refine Ev.tabIn (tgt := 150) (off := 119) dX8_joint_31 ⟨by omega, by omega⟩ (by omega) (by omega) (by rw [c31] <;> rfl) (by decide) ?_
            refine Ev.iload_n dX8_joint_150 (Eq.refl 151) rfl ?_
            refine Ev.if_eq (tgt := 172) dX8_joint_151 (Eq.refl 154) (by decide) ⟨by omega, by omega⟩ (fun c151 => ?_) (fun c151 => ?_)
            · refine Ev.bipush dX8_joint_172 (Eq.refl 174) (by decide) ?_
              exact Ev.iret dX8_joint_174 rfl ((by rw [ea, w1 (by omega), cif_f ha]; exact ⟨_, rfl, rfl, Ig⟩))
            · omega
          · refine Ev.tabIn (tgt := 85) (off := 54) dX8_joint_31 ⟨by omega, by omega⟩ (by omega) (by omega) (by rw [c31] <;> rfl) (by decide) ?_
            refine Ev.aload_n dX8_joint_85 (Eq.refl 86) rfl ?_
            refine Ev.iload_n dX8_joint_86 (Eq.refl 87) rfl ?_
            refine Ev.cv1E dX8_joint_87 (Eq.refl 90) cw_X8_209 (Nat.le_of_ble_eq_true rfl) (by decide) rfl rfl rfl (Nat.le_of_ble_eq_true rfl) (q_bitsOf Bg hn) ?_
            exact Ev.iret dX8_joint_90 rfl ((by rw [ea, w4 c31]; exact ⟨_, rfl, rfl, Ig⟩))
          · refine Ev.tabIn (tgt := 91) (off := 60) dX8_joint_31 ⟨by omega, by omega⟩ (by omega) (by omega) (by rw [c31] <;> rfl) (by decide) ?_
            refine Ev.aload_n dX8_joint_91 (Eq.refl 92) rfl ?_
            refine Ev.getR dX8_joint_92 (Eq.refl 95) fg_X8_13 rfl rfl (rX8_3 hR) ?_
            refine Ev.bipush dX8_joint_95 (Eq.refl 97) (by decide) ?_
            refine Ev.iload_n dX8_joint_97 (Eq.refl 98) rfl ?_
            refine Ev.iadd dX8_joint_98 (Eq.refl 99) ?_
            refine Ev.iaload dX8_joint_99 (Eq.refl 100) rfl rfl (by omega) (by decide) q44 ?_
            rw [eL]
            refine Ev.bipush dX8_joint_100 (Eq.refl 102) (by decide) ?_
            refine Ev.iadd dX8_joint_102 (Eq.refl 103) ?_
            exact Ev.iret dX8_joint_103 rfl ((by rw [ea, w5 c31]; exact ⟨_, rfl, rfl, Ig⟩))
          · refine Ev.tabIn (tgt := 104) (off := 73) dX8_joint_31 ⟨by omega, by omega⟩ (by omega) (by omega) (by rw [c31] <;> rfl) (by decide) ?_
            refine Ev.aload_n dX8_joint_104 (Eq.refl 105) rfl ?_
            refine Ev.getR dX8_joint_105 (Eq.refl 108) fg_X8_29 rfl rfl (rX8_11 hR) ?_
            refine Ev.iload_n dX8_joint_108 (Eq.refl 109) rfl ?_
            refine Ev.zaload dX8_joint_109 (Eq.refl 110) rfl rfl (by omega) (by decide) (by first | with_reducible exact Int.toNat_natCast _ | exact Eq.refl _) ?_
            rw [b7]
            refine Ev.if_eq (tgt := 117) dX8_joint_110 (Eq.refl 113) (by decide) (biR _) (fun c110 => ?_) (fun c110 => ?_)
            · refine Ev.iconst dX8_joint_117 (Eq.refl 118) ?_
              exact Ev.iret dX8_joint_118 rfl ((by rw [ea, w6 c31]; exact ⟨_, rfl, by show _ = bi _; omega, Ig⟩))
            · refine Ev.iconst dX8_joint_113 (Eq.refl 114) ?_
              refine Ev.goto' (pc' := 118) dX8_joint_114 (by decide) ?_
              exact Ev.iret dX8_joint_118 rfl ((by rw [ea, w6 c31]; exact ⟨_, rfl, by show _ = bi _; omega, Ig⟩))
          · refine Ev.tabIn (tgt := 119) (off := 88) dX8_joint_31 ⟨by omega, by omega⟩ (by omega) (by omega) (by rw [c31] <;> rfl) (by decide) ?_
            refine Ev.iload_n dX8_joint_119 (Eq.refl 120) rfl ?_
            refine Ev.if_ne (tgt := 128) dX8_joint_120 (Eq.refl 123) (by decide) ⟨by omega, by omega⟩ (fun c120 => ?_) (fun c120 => ?_)
            · omega
            · refine Ev.bipush dX8_joint_123 (Eq.refl 125) (by decide) ?_
              refine Ev.goto' (pc' := 149) dX8_joint_125 (by decide) ?_
              exact Ev.iret dX8_joint_149 rfl ((by rw [ea, w7 c31, cif_f ha]; exact ⟨_, rfl, rfl, Ig⟩))
      refine Ev.aload_n dX8_joint_5 (Eq.refl 6) rfl ?_
      refine Ev.iload_n dX8_joint_6 (Eq.refl 7) rfl ?_
      refine Ev.cv1E dX8_joint_7 (Eq.refl 10) cw_X8_196 (Nat.le_of_ble_eq_true rfl) (by decide) rfl rfl rfl (Nat.le_of_ble_eq_true rfl) (q_isJoint B hj) ?_
      refine Ev.if_eqB (tgt := 23) dX8_joint_10 (Eq.refl 13) (by decide) (fun c10 => ?_) (fun c10 => ?_)
      · exact absurd c0 c10
      · refine Ev.iload_n dX8_joint_13 (Eq.refl 14) rfl ?_
        refine Ev.iconst dX8_joint_14 (Eq.refl 15) ?_
        refine Ev.bipush dX8_joint_15 (Eq.refl 17) (by decide) ?_
        refine Ev.cs3E dX8_joint_17 (Eq.refl 20) cw_X8_73 (Nat.le_of_ble_eq_true rfl) (by decide) rfl (Nat.le_of_ble_eq_true rfl) (m_in (by assumption) (by assumption) (by assumption)) ?_
        refine Ev.if_neB (tgt := 25) dX8_joint_20 (Eq.refl 23) (by decide) (fun c20 => ?_) (fun c20 => ?_)
        · refine Ev.aload_n dX8_joint_25 (Eq.refl 26) rfl ?_
          refine Ev.cv0I dX8_joint_26 (Eq.refl 29) cw_X8_202 (Nat.le_of_ble_eq_true rfl) (by decide) rfl rfl rfl (Nat.le_of_ble_eq_true rfl) (q_lays B) (fun x26 g26 hp26 => ?_)
          exact GO _ _ hp26
        · exact absurd cw c20
    · have ea : aJoint s j w = (-1, s) := Prod.ext (if_neg c) rfl
      refine Ev.aload_n dX8_joint_5 (Eq.refl 6) rfl ?_
      refine Ev.iload_n dX8_joint_6 (Eq.refl 7) rfl ?_
      refine Ev.cv1E dX8_joint_7 (Eq.refl 10) cw_X8_196 (Nat.le_of_ble_eq_true rfl) (by decide) rfl rfl rfl (Nat.le_of_ble_eq_true rfl) (q_isJoint B hj) ?_
      refine Ev.if_eqB (tgt := 23) dX8_joint_10 (Eq.refl 13) (by decide) (fun c10 => ?_) (fun c10 => ?_)
      · refine Ev.iconst dX8_joint_23 (Eq.refl 24) ?_
        exact Ev.iret dX8_joint_24 rfl ((by rw [ea]; exact ⟨_, rfl, rfl, I⟩))
      · refine Ev.iload_n dX8_joint_13 (Eq.refl 14) rfl ?_
        refine Ev.iconst dX8_joint_14 (Eq.refl 15) ?_
        refine Ev.bipush dX8_joint_15 (Eq.refl 17) (by decide) ?_
        refine Ev.cs3E dX8_joint_17 (Eq.refl 20) cw_X8_73 (Nat.le_of_ble_eq_true rfl) (by decide) rfl (Nat.le_of_ble_eq_true rfl) (m_in (by assumption) (by assumption) (by assumption)) ?_
        refine Ev.if_neB (tgt := 25) dX8_joint_20 (Eq.refl 23) (by decide) (fun c20 => ?_) (fun c20 => ?_)
        · exact absurd ⟨c10, c20⟩ c
        · refine Ev.iconst dX8_joint_23 (Eq.refl 24) ?_
          exact Ev.iret dX8_joint_24 rfl ((by rw [ea]; exact ⟨_, rfl, rfl, I⟩))
  refine Ev.aload_n dX8_joint_0 (Eq.refl 1) rfl ?_
  refine Ev.iconst dX8_joint_1 (Eq.refl 2) ?_
  refine Ev.putI dX8_joint_2 (Eq.refl 5) fp_X8_69 rfl rfl (Or.inl rfl) ?_
  exact TAIL _ (I.k (Mk.rf.w (by omega)))
theorem m_strand {k w : Int} (I : MInv h s) (hk : I32 k) (hw : I32 w) : Ev mX8_strand 5 0 (entL [.ref 0, iv k, iv w] 4) [] h (PM (aStrand s k w)) := by
  show Ev mX8_strand 5 0 [some (.ref 0), some (iv k), some (iv w), none] [] h _
  have TAIL : ∀ h, MInv h s → Ev mX8_strand 5 5 [some (.ref 0), some (iv k), some (iv w), none] [] h (PM (aStrand s k w)) := by
    intro h I
    have B := I.B
    have hv := B.vk
    have hS14 := hv.2.1
    have i0 : I32 0 := ⟨by omega, by omega⟩
    have i8 : I32 8 := ⟨by omega, by omega⟩
    by_cases c : isS (sV s) k ∧ 0 ≤ w ∧ w ≤ 8
    · obtain ⟨c0, cw⟩ := c
      have ea : aStrand s k w = (strd (sV s) k.toNat w, s) := Prod.ext (if_pos ⟨c0, cw⟩) rfl
      obtain ⟨n, rfl⟩ := Int.eq_ofNat_of_zero_le c0.1
      rw [Int.toNat_natCast] at ea
      have hn : n < vS (sV s) := by have := c0.2; omega
      have b := hv.2.2.2.1 n hn
      by_cases w5 : w < 5
      · obtain ⟨u, rfl⟩ := Int.eq_ofNat_of_zero_le cw.1
        have cO := m_of (h := h) (k := n) (w := u) B.1 (by omega) (by omega)
        have e0 : h.1 2 (54 + 5 * n + u) = strd (sV s) n (u : Int) := by
          have hs1 : (n : Int) < h.1 2 1 := by rw [B.s1]; omega
          unfold strd
          rcases (by omega : u = 0 ∨ u = 1 ∨ u = 2 ∨ u = 3 ∨ u = 4) with rfl | rfl | rfl | rfl | rfl
          · have := gA B.2.1 hs1; rw [B.2.2] at this; exact this
          · have := gB B.2.1 hs1; rw [B.2.2] at this; exact this
          · have := gQ (f := h.1 2) hs1; rw [B.2.2] at this; exact this
          · have := gW (f := h.1 2) hs1; rw [B.2.2] at this; exact this
          · have hD := (B.2.1.2.2.2.1 n hs1).2.2
            have hq := gH (f := h.1 2) hs1
            rw [B.2.2] at hq
            show h.1 2 (54 + 5 * n + 4) = if vH (sV s) n = true then 0 else 1
            by_cases z : vH (sV s) n = true
            · rw [if_pos z]; exact hq.mpr z
            · rw [if_neg z]
              have : ¬ h.1 2 (54 + 5 * n + 4) = 0 := fun y => z (hq.mp y)
              omega
        refine Ev.aload_n dX8_strand_5 (Eq.refl 6) rfl ?_
        refine Ev.iload_n dX8_strand_6 (Eq.refl 7) rfl ?_
        refine Ev.cv1E dX8_strand_7 (Eq.refl 10) cw_X8_190 (Nat.le_of_ble_eq_true rfl) (by decide) rfl rfl rfl (Nat.le_of_ble_eq_true rfl) (q_isStrand B hk) ?_
        refine Ev.if_eqB (tgt := 23) dX8_strand_10 (Eq.refl 13) (by decide) (fun c10 => ?_) (fun c10 => ?_)
        · exact absurd c0 c10
        · refine Ev.iload_n dX8_strand_13 (Eq.refl 14) rfl ?_
          refine Ev.iconst dX8_strand_14 (Eq.refl 15) ?_
          refine Ev.bipush dX8_strand_15 (Eq.refl 17) (by decide) ?_
          refine Ev.cs3E dX8_strand_17 (Eq.refl 20) cw_X8_73 (Nat.le_of_ble_eq_true rfl) (by decide) rfl (Nat.le_of_ble_eq_true rfl) (m_in (by assumption) (by assumption) (by assumption)) ?_
          refine Ev.if_neB (tgt := 25) dX8_strand_20 (Eq.refl 23) (by decide) (fun c20 => ?_) (fun c20 => ?_)
          · refine Ev.iload_n dX8_strand_25 (Eq.refl 26) rfl ?_
            refine Ev.iconst dX8_strand_26 (Eq.refl 27) ?_
            refine Ev.icmp_ge (tgt := 37) dX8_strand_27 (Eq.refl 30) (by decide) ⟨by omega, by omega⟩ ⟨by omega, by omega⟩ (fun c27 => ?_) (fun c27 => ?_)
            · omega
            · refine Ev.aload_n dX8_strand_30 (Eq.refl 31) rfl ?_
              refine Ev.iload_n dX8_strand_31 (Eq.refl 32) rfl ?_
              refine Ev.iload_n dX8_strand_32 (Eq.refl 33) rfl ?_
              refine Ev.cv2E dX8_strand_33 (Eq.refl 36) cw_X8_131 (Nat.le_of_ble_eq_true rfl) (by decide) rfl rfl rfl (Nat.le_of_ble_eq_true rfl) (cO) ?_
              rw [e0]
              exact Ev.iret dX8_strand_36 rfl ((by rw [ea]; exact ⟨_, rfl, rfl, I⟩))
          · exact absurd cw c20
      · have es : strd (sV s) n w = cif (aH (sV s) (hgV (sV s))) (hst (sV s) n w) (-2) := by unfold strd; rw [if_neg (by omega), if_neg (by omega), if_neg (by omega), if_neg (by omega), if_neg (by omega)]
        by_cases ha : aH (sV s) (hgV (sV s))
        · rw [cif_t ha] at es
          have h4 : vH (sV s) n = false ∨ (w = 7 ∧ vW (sV s) n = 0) → hst (sV s) n w = -4 := fun z => if_pos z
          have h5 : ¬ (vH (sV s) n = false ∨ (w = 7 ∧ vW (sV s) n = 0)) → hst (sV s) n w = if w = 5 then len (sV s) n else if w = 6 then vQ (sV s) n * len (sV s) n else if w = 7 then offV (sV s) n else bi (ndd (sV s) n) := fun z => if_neg z
          have en : aH (sV s) (GW (sV s) (n : Int)) ↔ ¬ ndd (sV s) n := by
            unfold ndd
            rw [Classical.not_not]
            exact aH_congr (fun t _ => by unfold GW; constructor <;> rintro ⟨z1, z2⟩ <;> exact ⟨z1, by omega⟩)
          by_cases hh : vH (sV s) n = true
          · have hl := len_b hv ha hn
            refine Ev.aload_n dX8_strand_5 (Eq.refl 6) rfl ?_
            refine Ev.iload_n dX8_strand_6 (Eq.refl 7) rfl ?_
            refine Ev.cv1E dX8_strand_7 (Eq.refl 10) cw_X8_190 (Nat.le_of_ble_eq_true rfl) (by decide) rfl rfl rfl (Nat.le_of_ble_eq_true rfl) (q_isStrand B hk) ?_
            refine Ev.if_eqB (tgt := 23) dX8_strand_10 (Eq.refl 13) (by decide) (fun c10 => ?_) (fun c10 => ?_)
            · exact absurd c0 c10
            · refine Ev.iload_n dX8_strand_13 (Eq.refl 14) rfl ?_
              refine Ev.iconst dX8_strand_14 (Eq.refl 15) ?_
              refine Ev.bipush dX8_strand_15 (Eq.refl 17) (by decide) ?_
              refine Ev.cs3E dX8_strand_17 (Eq.refl 20) cw_X8_73 (Nat.le_of_ble_eq_true rfl) (by decide) rfl (Nat.le_of_ble_eq_true rfl) (m_in (by assumption) (by assumption) (by assumption)) ?_
              refine Ev.if_neB (tgt := 25) dX8_strand_20 (Eq.refl 23) (by decide) (fun c20 => ?_) (fun c20 => ?_)
              · refine Ev.iload_n dX8_strand_25 (Eq.refl 26) rfl ?_
                refine Ev.iconst dX8_strand_26 (Eq.refl 27) ?_
                refine Ev.icmp_ge (tgt := 37) dX8_strand_27 (Eq.refl 30) (by decide) ⟨by omega, by omega⟩ ⟨by omega, by omega⟩ (fun c27 => ?_) (fun c27 => ?_)
                · refine Ev.aload_n dX8_strand_37 (Eq.refl 38) rfl ?_
                  refine Ev.cv0I dX8_strand_38 (Eq.refl 41) cw_X8_202 (Nat.le_of_ble_eq_true rfl) (by decide) rfl rfl rfl (Nat.le_of_ble_eq_true rfl) (q_lays B) (fun x38 g38 hp38 => ?_)
                  have M := MS.of B hp38 ha
                  obtain ⟨hK, rfl, h7, _⟩ := hp38
                  have Ig : MInv g38 s := I.k hK.k
                  refine Ev.if_neB (tgt := 47) dX8_strand_41 (Eq.refl 44) (by decide) (fun c41 => ?_) (fun c41 => ?_)
                  · refine Ev.aload_n dX8_strand_47 (Eq.refl 48) rfl ?_
                    refine Ev.iload_n dX8_strand_48 (Eq.refl 49) rfl ?_
                    refine Ev.cv1E dX8_strand_49 (Eq.refl 52) cw_X8_137 (Nat.le_of_ble_eq_true rfl) (by decide) rfl rfl rfl (Nat.le_of_ble_eq_true rfl) (q_hangs M.1 hn) ?_
                    refine Ev.if_eqB (tgt := 70) dX8_strand_52 (Eq.refl 55) (by decide) (fun c52 => ?_) (fun c52 => ?_)
                    · exact absurd hh c52
                    · refine Ev.iload_n dX8_strand_55 (Eq.refl 56) rfl ?_
                      refine Ev.bipush dX8_strand_56 (Eq.refl 58) (by decide) ?_
                      refine Ev.icmp_ne (tgt := 73) dX8_strand_58 (Eq.refl 61) (by decide) ⟨by omega, by omega⟩ ⟨by omega, by omega⟩ (fun c58 => ?_) (fun c58 => ?_)
                      · refine Ev.aload_n dX8_strand_73 (Eq.refl 74) rfl ?_
                        refine Ev.iload_n dX8_strand_74 (Eq.refl 75) rfl ?_
                        refine Ev.cv1E dX8_strand_75 (Eq.refl 78) cw_X8_174 (Nat.le_of_ble_eq_true rfl) (by decide) rfl rfl rfl (Nat.le_of_ble_eq_true rfl) (q_len M hn) ?_
                        refine Ev.is3 dX8_strand_78 (Eq.refl 79) (by decide) rfl ?_
                        refine Ev.iload_n dX8_strand_79 (Eq.refl 80) rfl ?_
                        refine Ev.iconst dX8_strand_80 (Eq.refl 81) ?_
                        refine Ev.icmp_ne (tgt := 88) dX8_strand_81 (Eq.refl 84) (by decide) ⟨by omega, by omega⟩ ⟨by omega, by omega⟩ (fun c81 => ?_) (fun c81 => ?_)
                        · refine Ev.iload_n dX8_strand_88 (Eq.refl 89) rfl ?_
                          refine Ev.bipush dX8_strand_89 (Eq.refl 91) (by decide) ?_
                          refine Ev.icmp_ne (tgt := 105) dX8_strand_91 (Eq.refl 94) (by decide) ⟨by omega, by omega⟩ ⟨by omega, by omega⟩ (fun c91 => ?_) (fun c91 => ?_)
                          · refine Ev.iload_n dX8_strand_105 (Eq.refl 106) rfl ?_
                            refine Ev.bipush dX8_strand_106 (Eq.refl 108) (by decide) ?_
                            refine Ev.icmp_ne (tgt := 119) dX8_strand_108 (Eq.refl 111) (by decide) ⟨by omega, by omega⟩ ⟨by omega, by omega⟩ (fun c108 => ?_) (fun c108 => ?_)
                            · refine Ev.aload_n dX8_strand_119 (Eq.refl 120) rfl ?_
                              refine Ev.iload_n dX8_strand_120 (Eq.refl 121) rfl ?_
                              refine Ev.cv1I dX8_strand_121 (Eq.refl 124) cw_X8_150 (Nat.le_of_ble_eq_true rfl) (by decide) rfl rfl rfl (Nat.le_of_ble_eq_true rfl) (q_hung (w := (n : Int)) M.1 (by omega)) (fun x121 g121 hp121 => ?_)
                              obtain ⟨hF121, rfl, h77⟩ := hp121
                              have Ih : MInv g121 s := Ig.k (Lk.rf.f7 hF121).k
                              refine Ev.if_eqB (tgt := 131) dX8_strand_124 (Eq.refl 127) (by decide) (fun c124 => ?_) (fun c124 => ?_)
                              · refine Ev.iconst dX8_strand_131 (Eq.refl 132) ?_
                                exact Ev.iret dX8_strand_132 rfl ((by rw [ea, es, h5 (fun z => by rcases z with z | z; rw [hh] at z; cases z; omega)]; first | (exfalso; omega) | exact ⟨_, rfl, (if_pos (by omega)).symm, Ig⟩ | exact ⟨_, rfl, by show _ = if _ then _ else _; rw [if_neg (by omega), if_pos (by omega)], Ig⟩ | exact ⟨_, rfl, by show _ = if _ then _ else _; rw [if_neg (by omega), if_neg (by omega), if_pos (by omega)], Ig⟩ | exact ⟨_, rfl, by show _ = if _ then _ else _; rw [if_neg (by omega), if_neg (by omega), if_neg (by omega)]; first | exact (bi_f (en.mp c124)).symm | exact (bi_t (Classical.byContradiction fun z => c124 (en.mpr z))).symm, Ih⟩))
                              · refine Ev.iconst dX8_strand_127 (Eq.refl 128) ?_
                                refine Ev.goto' (pc' := 132) dX8_strand_128 (by decide) ?_
                                exact Ev.iret dX8_strand_132 rfl ((by rw [ea, es, h5 (fun z => by rcases z with z | z; rw [hh] at z; cases z; omega)]; first | (exfalso; omega) | exact ⟨_, rfl, (if_pos (by omega)).symm, Ig⟩ | exact ⟨_, rfl, by show _ = if _ then _ else _; rw [if_neg (by omega), if_pos (by omega)], Ig⟩ | exact ⟨_, rfl, by show _ = if _ then _ else _; rw [if_neg (by omega), if_neg (by omega), if_pos (by omega)], Ig⟩ | exact ⟨_, rfl, by show _ = if _ then _ else _; rw [if_neg (by omega), if_neg (by omega), if_neg (by omega)]; first | exact (bi_f (en.mp c124)).symm | exact (bi_t (Classical.byContradiction fun z => c124 (en.mpr z))).symm, Ih⟩))
                            · refine Ev.aload_n dX8_strand_111 (Eq.refl 112) rfl ?_
                              refine Ev.iload_n dX8_strand_112 (Eq.refl 113) rfl ?_
                              refine Ev.cv1E dX8_strand_113 (Eq.refl 116) cw_X8_181 (Nat.le_of_ble_eq_true rfl) (by decide) rfl rfl rfl (Nat.le_of_ble_eq_true rfl) (q_off M hn) ?_
                              refine Ev.goto' (pc' := 132) dX8_strand_116 (by decide) ?_
                              exact Ev.iret dX8_strand_132 rfl ((by rw [ea, es, h5 (fun z => by rcases z with z | z; rw [hh] at z; cases z; omega)]; first | (exfalso; omega) | exact ⟨_, rfl, (if_pos (by omega)).symm, Ig⟩ | exact ⟨_, rfl, by show _ = if _ then _ else _; rw [if_neg (by omega), if_pos (by omega)], Ig⟩ | exact ⟨_, rfl, by show _ = if _ then _ else _; rw [if_neg (by omega), if_neg (by omega), if_pos (by omega)], Ig⟩ | exact ⟨_, rfl, by show _ = if _ then _ else _; rw [if_neg (by omega), if_neg (by omega), if_neg (by omega)]; first | exact (bi_f (en.mp c124)).symm | exact (bi_t (Classical.byContradiction fun z => c124 (en.mpr z))).symm, Ih⟩))
                          · refine Ev.aload_n dX8_strand_94 (Eq.refl 95) rfl ?_
                            refine Ev.iload_n dX8_strand_95 (Eq.refl 96) rfl ?_
                            refine Ev.iconst dX8_strand_96 (Eq.refl 97) ?_
                            refine Ev.cv2E dX8_strand_97 (Eq.refl 100) cw_X8_131 (Nat.le_of_ble_eq_true rfl) (by decide) rfl rfl rfl (Nat.le_of_ble_eq_true rfl) (q_ofQ M.1 hn) ?_
                            refine Ev.iload_n dX8_strand_100 (Eq.refl 101) rfl ?_
                            refine Ev.imul dX8_strand_101 (Eq.refl 102) ?_
                            refine Ev.goto' (pc' := 132) dX8_strand_102 (by decide) ?_
                            exact Ev.iret dX8_strand_132 rfl ((by rw [ea, es, h5 (fun z => by rcases z with z | z; rw [hh] at z; cases z; omega)]; first | (exfalso; omega) | exact ⟨_, rfl, (if_pos (by omega)).symm, Ig⟩ | exact ⟨_, rfl, by show _ = if _ then _ else _; rw [if_neg (by omega), if_pos (by omega)], Ig⟩ | exact ⟨_, rfl, by show _ = if _ then _ else _; rw [if_neg (by omega), if_neg (by omega), if_pos (by omega)], Ig⟩ | exact ⟨_, rfl, by show _ = if _ then _ else _; rw [if_neg (by omega), if_neg (by omega), if_neg (by omega)]; first | exact (bi_f (en.mp c124)).symm | exact (bi_t (Classical.byContradiction fun z => c124 (en.mpr z))).symm, Ih⟩))
                        · refine Ev.iload_n dX8_strand_84 (Eq.refl 85) rfl ?_
                          refine Ev.goto' (pc' := 132) dX8_strand_85 (by decide) ?_
                          exact Ev.iret dX8_strand_132 rfl ((by rw [ea, es, h5 (fun z => by rcases z with z | z; rw [hh] at z; cases z; omega)]; first | (exfalso; omega) | exact ⟨_, rfl, (if_pos (by omega)).symm, Ig⟩ | exact ⟨_, rfl, by show _ = if _ then _ else _; rw [if_neg (by omega), if_pos (by omega)], Ig⟩ | exact ⟨_, rfl, by show _ = if _ then _ else _; rw [if_neg (by omega), if_neg (by omega), if_pos (by omega)], Ig⟩ | exact ⟨_, rfl, by show _ = if _ then _ else _; rw [if_neg (by omega), if_neg (by omega), if_neg (by omega)]; first | exact (bi_f (en.mp c124)).symm | exact (bi_t (Classical.byContradiction fun z => c124 (en.mpr z))).symm, Ih⟩))
                      · refine Ev.aload_n dX8_strand_61 (Eq.refl 62) rfl ?_
                        refine Ev.iload_n dX8_strand_62 (Eq.refl 63) rfl ?_
                        refine Ev.iconst dX8_strand_63 (Eq.refl 64) ?_
                        refine Ev.cv2E dX8_strand_64 (Eq.refl 67) cw_X8_131 (Nat.le_of_ble_eq_true rfl) (by decide) rfl rfl rfl (Nat.le_of_ble_eq_true rfl) (q_ofW M.1 hn) ?_
                        refine Ev.if_ne (tgt := 73) dX8_strand_67 (Eq.refl 70) (by decide) ⟨by omega, by omega⟩ (fun c67 => ?_) (fun c67 => ?_)
                        · refine Ev.aload_n dX8_strand_73 (Eq.refl 74) rfl ?_
                          refine Ev.iload_n dX8_strand_74 (Eq.refl 75) rfl ?_
                          refine Ev.cv1E dX8_strand_75 (Eq.refl 78) cw_X8_174 (Nat.le_of_ble_eq_true rfl) (by decide) rfl rfl rfl (Nat.le_of_ble_eq_true rfl) (q_len M hn) ?_
                          refine Ev.is3 dX8_strand_78 (Eq.refl 79) (by decide) rfl ?_
                          refine Ev.iload_n dX8_strand_79 (Eq.refl 80) rfl ?_
                          refine Ev.iconst dX8_strand_80 (Eq.refl 81) ?_
                          refine Ev.icmp_ne (tgt := 88) dX8_strand_81 (Eq.refl 84) (by decide) ⟨by omega, by omega⟩ ⟨by omega, by omega⟩ (fun c81 => ?_) (fun c81 => ?_)
                          · refine Ev.iload_n dX8_strand_88 (Eq.refl 89) rfl ?_
                            refine Ev.bipush dX8_strand_89 (Eq.refl 91) (by decide) ?_
                            refine Ev.icmp_ne (tgt := 105) dX8_strand_91 (Eq.refl 94) (by decide) ⟨by omega, by omega⟩ ⟨by omega, by omega⟩ (fun c91 => ?_) (fun c91 => ?_)
                            · refine Ev.iload_n dX8_strand_105 (Eq.refl 106) rfl ?_
                              refine Ev.bipush dX8_strand_106 (Eq.refl 108) (by decide) ?_
                              refine Ev.icmp_ne (tgt := 119) dX8_strand_108 (Eq.refl 111) (by decide) ⟨by omega, by omega⟩ ⟨by omega, by omega⟩ (fun c108 => ?_) (fun c108 => ?_)
                              · refine Ev.aload_n dX8_strand_119 (Eq.refl 120) rfl ?_
                                refine Ev.iload_n dX8_strand_120 (Eq.refl 121) rfl ?_
                                refine Ev.cv1I dX8_strand_121 (Eq.refl 124) cw_X8_150 (Nat.le_of_ble_eq_true rfl) (by decide) rfl rfl rfl (Nat.le_of_ble_eq_true rfl) (q_hung (w := (n : Int)) M.1 (by omega)) (fun x121 g121 hp121 => ?_)
                                obtain ⟨hF121, rfl, h77⟩ := hp121
                                have Ih : MInv g121 s := Ig.k (Lk.rf.f7 hF121).k
                                refine Ev.if_eqB (tgt := 131) dX8_strand_124 (Eq.refl 127) (by decide) (fun c124 => ?_) (fun c124 => ?_)
                                · refine Ev.iconst dX8_strand_131 (Eq.refl 132) ?_
                                  exact Ev.iret dX8_strand_132 rfl ((by rw [ea, es, h5 (fun z => by rcases z with z | z; rw [hh] at z; cases z; omega)]; first | (exfalso; omega) | exact ⟨_, rfl, (if_pos (by omega)).symm, Ig⟩ | exact ⟨_, rfl, by show _ = if _ then _ else _; rw [if_neg (by omega), if_pos (by omega)], Ig⟩ | exact ⟨_, rfl, by show _ = if _ then _ else _; rw [if_neg (by omega), if_neg (by omega), if_pos (by omega)], Ig⟩ | exact ⟨_, rfl, by show _ = if _ then _ else _; rw [if_neg (by omega), if_neg (by omega), if_neg (by omega)]; first | exact (bi_f (en.mp c124)).symm | exact (bi_t (Classical.byContradiction fun z => c124 (en.mpr z))).symm, Ih⟩))
                                · refine Ev.iconst dX8_strand_127 (Eq.refl 128) ?_
                                  refine Ev.goto' (pc' := 132) dX8_strand_128 (by decide) ?_
                                  exact Ev.iret dX8_strand_132 rfl ((by rw [ea, es, h5 (fun z => by rcases z with z | z; rw [hh] at z; cases z; omega)]; first | (exfalso; omega) | exact ⟨_, rfl, (if_pos (by omega)).symm, Ig⟩ | exact ⟨_, rfl, by show _ = if _ then _ else _; rw [if_neg (by omega), if_pos (by omega)], Ig⟩ | exact ⟨_, rfl, by show _ = if _ then _ else _; rw [if_neg (by omega), if_neg (by omega), if_pos (by omega)], Ig⟩ | exact ⟨_, rfl, by show _ = if _ then _ else _; rw [if_neg (by omega), if_neg (by omega), if_neg (by omega)]; first | exact (bi_f (en.mp c124)).symm | exact (bi_t (Classical.byContradiction fun z => c124 (en.mpr z))).symm, Ih⟩))
                              · refine Ev.aload_n dX8_strand_111 (Eq.refl 112) rfl ?_
                                refine Ev.iload_n dX8_strand_112 (Eq.refl 113) rfl ?_
                                refine Ev.cv1E dX8_strand_113 (Eq.refl 116) cw_X8_181 (Nat.le_of_ble_eq_true rfl) (by decide) rfl rfl rfl (Nat.le_of_ble_eq_true rfl) (q_off M hn) ?_
                                refine Ev.goto' (pc' := 132) dX8_strand_116 (by decide) ?_
                                exact Ev.iret dX8_strand_132 rfl ((by rw [ea, es, h5 (fun z => by rcases z with z | z; rw [hh] at z; cases z; omega)]; first | (exfalso; omega) | exact ⟨_, rfl, (if_pos (by omega)).symm, Ig⟩ | exact ⟨_, rfl, by show _ = if _ then _ else _; rw [if_neg (by omega), if_pos (by omega)], Ig⟩ | exact ⟨_, rfl, by show _ = if _ then _ else _; rw [if_neg (by omega), if_neg (by omega), if_pos (by omega)], Ig⟩ | exact ⟨_, rfl, by show _ = if _ then _ else _; rw [if_neg (by omega), if_neg (by omega), if_neg (by omega)]; first | exact (bi_f (en.mp c124)).symm | exact (bi_t (Classical.byContradiction fun z => c124 (en.mpr z))).symm, Ih⟩))
                            · refine Ev.aload_n dX8_strand_94 (Eq.refl 95) rfl ?_
                              refine Ev.iload_n dX8_strand_95 (Eq.refl 96) rfl ?_
                              refine Ev.iconst dX8_strand_96 (Eq.refl 97) ?_
                              refine Ev.cv2E dX8_strand_97 (Eq.refl 100) cw_X8_131 (Nat.le_of_ble_eq_true rfl) (by decide) rfl rfl rfl (Nat.le_of_ble_eq_true rfl) (q_ofQ M.1 hn) ?_
                              refine Ev.iload_n dX8_strand_100 (Eq.refl 101) rfl ?_
                              refine Ev.imul dX8_strand_101 (Eq.refl 102) ?_
                              refine Ev.goto' (pc' := 132) dX8_strand_102 (by decide) ?_
                              exact Ev.iret dX8_strand_132 rfl ((by rw [ea, es, h5 (fun z => by rcases z with z | z; rw [hh] at z; cases z; omega)]; first | (exfalso; omega) | exact ⟨_, rfl, (if_pos (by omega)).symm, Ig⟩ | exact ⟨_, rfl, by show _ = if _ then _ else _; rw [if_neg (by omega), if_pos (by omega)], Ig⟩ | exact ⟨_, rfl, by show _ = if _ then _ else _; rw [if_neg (by omega), if_neg (by omega), if_pos (by omega)], Ig⟩ | exact ⟨_, rfl, by show _ = if _ then _ else _; rw [if_neg (by omega), if_neg (by omega), if_neg (by omega)]; first | exact (bi_f (en.mp c124)).symm | exact (bi_t (Classical.byContradiction fun z => c124 (en.mpr z))).symm, Ih⟩))
                          · refine Ev.iload_n dX8_strand_84 (Eq.refl 85) rfl ?_
                            refine Ev.goto' (pc' := 132) dX8_strand_85 (by decide) ?_
                            exact Ev.iret dX8_strand_132 rfl ((by rw [ea, es, h5 (fun z => by rcases z with z | z; rw [hh] at z; cases z; omega)]; first | (exfalso; omega) | exact ⟨_, rfl, (if_pos (by omega)).symm, Ig⟩ | exact ⟨_, rfl, by show _ = if _ then _ else _; rw [if_neg (by omega), if_pos (by omega)], Ig⟩ | exact ⟨_, rfl, by show _ = if _ then _ else _; rw [if_neg (by omega), if_neg (by omega), if_pos (by omega)], Ig⟩ | exact ⟨_, rfl, by show _ = if _ then _ else _; rw [if_neg (by omega), if_neg (by omega), if_neg (by omega)]; first | exact (bi_f (en.mp c124)).symm | exact (bi_t (Classical.byContradiction fun z => c124 (en.mpr z))).symm, Ih⟩))
                        · refine Ev.bipush dX8_strand_70 (Eq.refl 72) (by decide) ?_
                          exact Ev.iret dX8_strand_72 rfl ((by rw [ea, es, h4 (Or.inr ⟨c58, c67⟩)]; exact ⟨_, rfl, rfl, Ig⟩))
                  · exact absurd ha c41
                · omega
              · exact absurd cw c20
          · have hf : vH (sV s) n = false := by cases z : vH (sV s) n with | false => rfl | true => exact absurd z hh
            refine Ev.aload_n dX8_strand_5 (Eq.refl 6) rfl ?_
            refine Ev.iload_n dX8_strand_6 (Eq.refl 7) rfl ?_
            refine Ev.cv1E dX8_strand_7 (Eq.refl 10) cw_X8_190 (Nat.le_of_ble_eq_true rfl) (by decide) rfl rfl rfl (Nat.le_of_ble_eq_true rfl) (q_isStrand B hk) ?_
            refine Ev.if_eqB (tgt := 23) dX8_strand_10 (Eq.refl 13) (by decide) (fun c10 => ?_) (fun c10 => ?_)
            · exact absurd c0 c10
            · refine Ev.iload_n dX8_strand_13 (Eq.refl 14) rfl ?_
              refine Ev.iconst dX8_strand_14 (Eq.refl 15) ?_
              refine Ev.bipush dX8_strand_15 (Eq.refl 17) (by decide) ?_
              refine Ev.cs3E dX8_strand_17 (Eq.refl 20) cw_X8_73 (Nat.le_of_ble_eq_true rfl) (by decide) rfl (Nat.le_of_ble_eq_true rfl) (m_in (by assumption) (by assumption) (by assumption)) ?_
              refine Ev.if_neB (tgt := 25) dX8_strand_20 (Eq.refl 23) (by decide) (fun c20 => ?_) (fun c20 => ?_)
              · refine Ev.iload_n dX8_strand_25 (Eq.refl 26) rfl ?_
                refine Ev.iconst dX8_strand_26 (Eq.refl 27) ?_
                refine Ev.icmp_ge (tgt := 37) dX8_strand_27 (Eq.refl 30) (by decide) ⟨by omega, by omega⟩ ⟨by omega, by omega⟩ (fun c27 => ?_) (fun c27 => ?_)
                · refine Ev.aload_n dX8_strand_37 (Eq.refl 38) rfl ?_
                  refine Ev.cv0I dX8_strand_38 (Eq.refl 41) cw_X8_202 (Nat.le_of_ble_eq_true rfl) (by decide) rfl rfl rfl (Nat.le_of_ble_eq_true rfl) (q_lays B) (fun x38 g38 hp38 => ?_)
                  have M := MS.of B hp38 ha
                  obtain ⟨hK, rfl, h7, _⟩ := hp38
                  have Ig : MInv g38 s := I.k hK.k
                  refine Ev.if_neB (tgt := 47) dX8_strand_41 (Eq.refl 44) (by decide) (fun c41 => ?_) (fun c41 => ?_)
                  · refine Ev.aload_n dX8_strand_47 (Eq.refl 48) rfl ?_
                    refine Ev.iload_n dX8_strand_48 (Eq.refl 49) rfl ?_
                    refine Ev.cv1E dX8_strand_49 (Eq.refl 52) cw_X8_137 (Nat.le_of_ble_eq_true rfl) (by decide) rfl rfl rfl (Nat.le_of_ble_eq_true rfl) (q_hangs M.1 hn) ?_
                    refine Ev.if_eqB (tgt := 70) dX8_strand_52 (Eq.refl 55) (by decide) (fun c52 => ?_) (fun c52 => ?_)
                    · refine Ev.bipush dX8_strand_70 (Eq.refl 72) (by decide) ?_
                      exact Ev.iret dX8_strand_72 rfl ((by rw [ea, es, h4 (Or.inl hf)]; exact ⟨_, rfl, rfl, Ig⟩))
                    · exact absurd c52 hh
                  · exact absurd ha c41
                · omega
              · exact absurd cw c20
        · rw [cif_f ha] at es
          refine Ev.aload_n dX8_strand_5 (Eq.refl 6) rfl ?_
          refine Ev.iload_n dX8_strand_6 (Eq.refl 7) rfl ?_
          refine Ev.cv1E dX8_strand_7 (Eq.refl 10) cw_X8_190 (Nat.le_of_ble_eq_true rfl) (by decide) rfl rfl rfl (Nat.le_of_ble_eq_true rfl) (q_isStrand B hk) ?_
          refine Ev.if_eqB (tgt := 23) dX8_strand_10 (Eq.refl 13) (by decide) (fun c10 => ?_) (fun c10 => ?_)
          · exact absurd c0 c10
          · refine Ev.iload_n dX8_strand_13 (Eq.refl 14) rfl ?_
            refine Ev.iconst dX8_strand_14 (Eq.refl 15) ?_
            refine Ev.bipush dX8_strand_15 (Eq.refl 17) (by decide) ?_
            refine Ev.cs3E dX8_strand_17 (Eq.refl 20) cw_X8_73 (Nat.le_of_ble_eq_true rfl) (by decide) rfl (Nat.le_of_ble_eq_true rfl) (m_in (by assumption) (by assumption) (by assumption)) ?_
            refine Ev.if_neB (tgt := 25) dX8_strand_20 (Eq.refl 23) (by decide) (fun c20 => ?_) (fun c20 => ?_)
            · refine Ev.iload_n dX8_strand_25 (Eq.refl 26) rfl ?_
              refine Ev.iconst dX8_strand_26 (Eq.refl 27) ?_
              refine Ev.icmp_ge (tgt := 37) dX8_strand_27 (Eq.refl 30) (by decide) ⟨by omega, by omega⟩ ⟨by omega, by omega⟩ (fun c27 => ?_) (fun c27 => ?_)
              · refine Ev.aload_n dX8_strand_37 (Eq.refl 38) rfl ?_
                refine Ev.cv0I dX8_strand_38 (Eq.refl 41) cw_X8_202 (Nat.le_of_ble_eq_true rfl) (by decide) rfl rfl rfl (Nat.le_of_ble_eq_true rfl) (q_lays B) (fun x38 g38 hp38 => ?_)
                obtain ⟨hK, rfl, h7, _⟩ := hp38
                refine Ev.if_neB (tgt := 47) dX8_strand_41 (Eq.refl 44) (by decide) (fun c41 => ?_) (fun c41 => ?_)
                · exact absurd c41 ha
                · refine Ev.bipush dX8_strand_44 (Eq.refl 46) (by decide) ?_
                  exact Ev.iret dX8_strand_46 rfl ((by rw [ea, es]; exact ⟨_, rfl, rfl, I.k hK.k⟩))
              · omega
            · exact absurd cw c20
    · have ea : aStrand s k w = (-1, s) := Prod.ext (if_neg c) rfl
      refine Ev.aload_n dX8_strand_5 (Eq.refl 6) rfl ?_
      refine Ev.iload_n dX8_strand_6 (Eq.refl 7) rfl ?_
      refine Ev.cv1E dX8_strand_7 (Eq.refl 10) cw_X8_190 (Nat.le_of_ble_eq_true rfl) (by decide) rfl rfl rfl (Nat.le_of_ble_eq_true rfl) (q_isStrand B hk) ?_
      refine Ev.if_eqB (tgt := 23) dX8_strand_10 (Eq.refl 13) (by decide) (fun c10 => ?_) (fun c10 => ?_)
      · refine Ev.iconst dX8_strand_23 (Eq.refl 24) ?_
        exact Ev.iret dX8_strand_24 rfl ((by rw [ea]; exact ⟨_, rfl, rfl, I⟩))
      · refine Ev.iload_n dX8_strand_13 (Eq.refl 14) rfl ?_
        refine Ev.iconst dX8_strand_14 (Eq.refl 15) ?_
        refine Ev.bipush dX8_strand_15 (Eq.refl 17) (by decide) ?_
        refine Ev.cs3E dX8_strand_17 (Eq.refl 20) cw_X8_73 (Nat.le_of_ble_eq_true rfl) (by decide) rfl (Nat.le_of_ble_eq_true rfl) (m_in (by assumption) (by assumption) (by assumption)) ?_
        refine Ev.if_neB (tgt := 25) dX8_strand_20 (Eq.refl 23) (by decide) (fun c20 => ?_) (fun c20 => ?_)
        · exact absurd ⟨c10, c20⟩ c
        · refine Ev.iconst dX8_strand_23 (Eq.refl 24) ?_
          exact Ev.iret dX8_strand_24 rfl ((by rw [ea]; exact ⟨_, rfl, rfl, I⟩))
  refine Ev.aload_n dX8_strand_0 (Eq.refl 1) rfl ?_
  refine Ev.iconst dX8_strand_1 (Eq.refl 2) ?_
  refine Ev.putI dX8_strand_2 (Eq.refl 5) fp_X8_69 rfl rfl (Or.inl rfl) ?_
  exact TAIL _ (I.k (Mk.rf.w (by omega)))
noncomputable def hcf (v : Nv) : Nat → Bool := fun j => @decide (vF v j = true ∧ hg v (hgV v) j) (Classical.propDecidable _)
theorem m_count {w : Int} (I : MInv h s) (hw : I32 w) : Ev mX8_count 3 0 (entL [.ref 0, iv w] 5) [] h (PM (aCount s w)) := by
  show Ev mX8_count 3 0 [some (.ref 0), some (iv w), none, none, none] [] h _
  have TAIL : ∀ h, MInv h s → Ev mX8_count 3 5 [some (.ref 0), some (iv w), none, none, none] [] h (PM (aCount s w)) := by
    intro h I
    have B := I.B
    have hv := B.vk
    have hJ := hv.1
    have i0 : I32 0 := ⟨by omega, by omega⟩
    have i8 : I32 8 := ⟨by omega, by omega⟩
    by_cases c : 0 ≤ w ∧ w ≤ 8
    · have cH := q_hung (w := -4) B (by omega)
      rw [GW4] at cH
      have LOOP : ∀ (g : Hp), MInv g s → (∀ j, j < vJ (sV s) → g.1 7 j = bi (hg (sV s) (hgV (sV s)) j)) → ∀ (m k : Nat), vJ (sV s) - k = m → k ≤ vJ (sV s) → Ev mX8_count 3 31 [some (.ref 0), some (iv w), some (iv (cnt (vF (sV s)) k : Nat)), some (iv (cnt (hcf (sV s)) k : Nat)), some (iv (k : Int))] [] g (PM (aCount s w)) := by
        intro g Ig h7 m
        have Bg := Ig.B
        have hR := Bg.1
        have e0 := Bg.s0
        have e1 := Bg.s1
        induction m using Nat.strongRecOn with
        | ind m ih =>
          intro k hm hk
          by_cases hk2 : k < vJ (sV s)
          · have R := ih _ (by omega) (k + 1) rfl (by omega)
            have b7 := h7 k hk2
            have b01 := bi01 (hg (sV s) (hgV (sV s)) k)
            by_cases hf : vF (sV s) k = true
            · have ef : ((cnt (vF (sV s)) (k + 1) : Nat) : Int) = (cnt (vF (sV s)) k : Nat) + 1 := by rw [cnt_s hf]; push_cast; rfl
              by_cases hh : hg (sV s) (hgV (sV s)) k
              · have eh : ((cnt (hcf (sV s)) (k + 1) : Nat) : Int) = (cnt (hcf (sV s)) k : Nat) + 1 := by rw [cnt_s (show hcf (sV s) k = true from @decide_eq_true _ (Classical.propDecidable _) ⟨hf, hh⟩)]; push_cast; rfl
                rw [bi_t hh] at b7
                rw [ef, eh] at R
                refine Ev.iload dX8_count_31 (Eq.refl 33) rfl ?_
                refine Ev.aload_n dX8_count_33 (Eq.refl 34) rfl ?_
                refine Ev.getR dX8_count_34 (Eq.refl 37) fg_X8_13 rfl rfl (rX8_3 hR) ?_
                refine Ev.iconst dX8_count_37 (Eq.refl 38) ?_
                refine Ev.iaload dX8_count_38 (Eq.refl 39) rfl rfl (by omega) (by decide) (show (0 : Int).toNat = 0 from rfl) ?_
                rw [e0]
                refine Ev.icmp_ge (tgt := 92) dX8_count_39 (Eq.refl 42) (by decide) ⟨by omega, by omega⟩ ⟨by omega, by omega⟩ (fun c39 => ?_) (fun c39 => ?_)
                · omega
                · refine Ev.iload_n dX8_count_42 (Eq.refl 43) rfl ?_
                  refine Ev.aload_n dX8_count_43 (Eq.refl 44) rfl ?_
                  refine Ev.iload dX8_count_44 (Eq.refl 46) rfl ?_
                  refine Ev.cv1E dX8_count_46 (Eq.refl 49) cw_X8_134 (Nat.le_of_ble_eq_true rfl) (by decide) rfl rfl rfl (Nat.le_of_ble_eq_true rfl) (q_free Bg hk2) ?_
                  refine Ev.if_eqB (tgt := 56) dX8_count_49 (Eq.refl 52) (by decide) (fun c49 => ?_) (fun c49 => ?_)
                  · exact absurd hf c49
                  · refine Ev.iconst dX8_count_52 (Eq.refl 53) ?_
                    refine Ev.goto' (pc' := 57) dX8_count_53 (by decide) ?_
                    refine Ev.iadd dX8_count_57 (Eq.refl 58) ?_
                    refine Ev.is2 dX8_count_58 (Eq.refl 59) (by decide) rfl ?_
                    refine Ev.iload_n dX8_count_59 (Eq.refl 60) rfl ?_
                    refine Ev.aload_n dX8_count_60 (Eq.refl 61) rfl ?_
                    refine Ev.iload dX8_count_61 (Eq.refl 63) rfl ?_
                    refine Ev.cv1E dX8_count_63 (Eq.refl 66) cw_X8_134 (Nat.le_of_ble_eq_true rfl) (by decide) rfl rfl rfl (Nat.le_of_ble_eq_true rfl) (q_free Bg hk2) ?_
                    refine Ev.if_eqB (tgt := 83) dX8_count_66 (Eq.refl 69) (by decide) (fun c66 => ?_) (fun c66 => ?_)
                    · exact absurd hf c66
                    · refine Ev.aload_n dX8_count_69 (Eq.refl 70) rfl ?_
                      refine Ev.getR dX8_count_70 (Eq.refl 73) fg_X8_29 rfl rfl (rX8_11 hR) ?_
                      refine Ev.iload dX8_count_73 (Eq.refl 75) rfl ?_
                      refine Ev.zaload dX8_count_75 (Eq.refl 76) rfl rfl (by omega) (by decide) (by first | with_reducible exact Int.toNat_natCast _ | exact Eq.refl _) ?_
                      rw [b7]
                      refine Ev.if_eq (tgt := 83) dX8_count_76 (Eq.refl 79) (by decide) ⟨by omega, by omega⟩ (fun c76 => ?_) (fun c76 => ?_)
                      · omega
                      · refine Ev.iconst dX8_count_79 (Eq.refl 80) ?_
                        refine Ev.goto' (pc' := 84) dX8_count_80 (by decide) ?_
                        refine Ev.iadd dX8_count_84 (Eq.refl 85) ?_
                        refine Ev.is3 dX8_count_85 (Eq.refl 86) (by decide) rfl ?_
                        refine Ev.ii4 dX8_count_86 (Eq.refl 89) (by decide) rfl ?_
                        refine Ev.goto' (pc' := 31) dX8_count_89 (by decide) ?_
                        exact R
              · have eh : ((cnt (hcf (sV s)) (k + 1) : Nat) : Int) = (cnt (hcf (sV s)) k : Nat) + 0 := by rw [cnt_n (show hcf (sV s) k = false from @decide_eq_false _ (Classical.propDecidable _) (fun z => hh z.2))]; omega
                rw [bi_f hh] at b7
                rw [ef, eh] at R
                refine Ev.iload dX8_count_31 (Eq.refl 33) rfl ?_
                refine Ev.aload_n dX8_count_33 (Eq.refl 34) rfl ?_
                refine Ev.getR dX8_count_34 (Eq.refl 37) fg_X8_13 rfl rfl (rX8_3 hR) ?_
                refine Ev.iconst dX8_count_37 (Eq.refl 38) ?_
                refine Ev.iaload dX8_count_38 (Eq.refl 39) rfl rfl (by omega) (by decide) (show (0 : Int).toNat = 0 from rfl) ?_
                rw [e0]
                refine Ev.icmp_ge (tgt := 92) dX8_count_39 (Eq.refl 42) (by decide) ⟨by omega, by omega⟩ ⟨by omega, by omega⟩ (fun c39 => ?_) (fun c39 => ?_)
                · omega
                · refine Ev.iload_n dX8_count_42 (Eq.refl 43) rfl ?_
                  refine Ev.aload_n dX8_count_43 (Eq.refl 44) rfl ?_
                  refine Ev.iload dX8_count_44 (Eq.refl 46) rfl ?_
                  refine Ev.cv1E dX8_count_46 (Eq.refl 49) cw_X8_134 (Nat.le_of_ble_eq_true rfl) (by decide) rfl rfl rfl (Nat.le_of_ble_eq_true rfl) (q_free Bg hk2) ?_
                  refine Ev.if_eqB (tgt := 56) dX8_count_49 (Eq.refl 52) (by decide) (fun c49 => ?_) (fun c49 => ?_)
                  · exact absurd hf c49
                  · refine Ev.iconst dX8_count_52 (Eq.refl 53) ?_
                    refine Ev.goto' (pc' := 57) dX8_count_53 (by decide) ?_
                    refine Ev.iadd dX8_count_57 (Eq.refl 58) ?_
                    refine Ev.is2 dX8_count_58 (Eq.refl 59) (by decide) rfl ?_
                    refine Ev.iload_n dX8_count_59 (Eq.refl 60) rfl ?_
                    refine Ev.aload_n dX8_count_60 (Eq.refl 61) rfl ?_
                    refine Ev.iload dX8_count_61 (Eq.refl 63) rfl ?_
                    refine Ev.cv1E dX8_count_63 (Eq.refl 66) cw_X8_134 (Nat.le_of_ble_eq_true rfl) (by decide) rfl rfl rfl (Nat.le_of_ble_eq_true rfl) (q_free Bg hk2) ?_
                    refine Ev.if_eqB (tgt := 83) dX8_count_66 (Eq.refl 69) (by decide) (fun c66 => ?_) (fun c66 => ?_)
                    · exact absurd hf c66
                    · refine Ev.aload_n dX8_count_69 (Eq.refl 70) rfl ?_
                      refine Ev.getR dX8_count_70 (Eq.refl 73) fg_X8_29 rfl rfl (rX8_11 hR) ?_
                      refine Ev.iload dX8_count_73 (Eq.refl 75) rfl ?_
                      refine Ev.zaload dX8_count_75 (Eq.refl 76) rfl rfl (by omega) (by decide) (by first | with_reducible exact Int.toNat_natCast _ | exact Eq.refl _) ?_
                      rw [b7]
                      refine Ev.if_eq (tgt := 83) dX8_count_76 (Eq.refl 79) (by decide) ⟨by omega, by omega⟩ (fun c76 => ?_) (fun c76 => ?_)
                      · refine Ev.iconst dX8_count_83 (Eq.refl 84) ?_
                        refine Ev.iadd dX8_count_84 (Eq.refl 85) ?_
                        refine Ev.is3 dX8_count_85 (Eq.refl 86) (by decide) rfl ?_
                        refine Ev.ii4 dX8_count_86 (Eq.refl 89) (by decide) rfl ?_
                        refine Ev.goto' (pc' := 31) dX8_count_89 (by decide) ?_
                        exact R
                      · omega
            · have ef : ((cnt (vF (sV s)) (k + 1) : Nat) : Int) = (cnt (vF (sV s)) k : Nat) + 0 := by rw [cnt_n (by cases z : vF (sV s) k with | false => rfl | true => exact absurd z hf)]; omega
              have eh : ((cnt (hcf (sV s)) (k + 1) : Nat) : Int) = (cnt (hcf (sV s)) k : Nat) + 0 := by rw [cnt_n (show hcf (sV s) k = false from @decide_eq_false _ (Classical.propDecidable _) (fun z => hf z.1))]; omega
              rw [ef, eh] at R
              refine Ev.iload dX8_count_31 (Eq.refl 33) rfl ?_
              refine Ev.aload_n dX8_count_33 (Eq.refl 34) rfl ?_
              refine Ev.getR dX8_count_34 (Eq.refl 37) fg_X8_13 rfl rfl (rX8_3 hR) ?_
              refine Ev.iconst dX8_count_37 (Eq.refl 38) ?_
              refine Ev.iaload dX8_count_38 (Eq.refl 39) rfl rfl (by omega) (by decide) (show (0 : Int).toNat = 0 from rfl) ?_
              rw [e0]
              refine Ev.icmp_ge (tgt := 92) dX8_count_39 (Eq.refl 42) (by decide) ⟨by omega, by omega⟩ ⟨by omega, by omega⟩ (fun c39 => ?_) (fun c39 => ?_)
              · omega
              · refine Ev.iload_n dX8_count_42 (Eq.refl 43) rfl ?_
                refine Ev.aload_n dX8_count_43 (Eq.refl 44) rfl ?_
                refine Ev.iload dX8_count_44 (Eq.refl 46) rfl ?_
                refine Ev.cv1E dX8_count_46 (Eq.refl 49) cw_X8_134 (Nat.le_of_ble_eq_true rfl) (by decide) rfl rfl rfl (Nat.le_of_ble_eq_true rfl) (q_free Bg hk2) ?_
                refine Ev.if_eqB (tgt := 56) dX8_count_49 (Eq.refl 52) (by decide) (fun c49 => ?_) (fun c49 => ?_)
                · refine Ev.iconst dX8_count_56 (Eq.refl 57) ?_
                  refine Ev.iadd dX8_count_57 (Eq.refl 58) ?_
                  refine Ev.is2 dX8_count_58 (Eq.refl 59) (by decide) rfl ?_
                  refine Ev.iload_n dX8_count_59 (Eq.refl 60) rfl ?_
                  refine Ev.aload_n dX8_count_60 (Eq.refl 61) rfl ?_
                  refine Ev.iload dX8_count_61 (Eq.refl 63) rfl ?_
                  refine Ev.cv1E dX8_count_63 (Eq.refl 66) cw_X8_134 (Nat.le_of_ble_eq_true rfl) (by decide) rfl rfl rfl (Nat.le_of_ble_eq_true rfl) (q_free Bg hk2) ?_
                  refine Ev.if_eqB (tgt := 83) dX8_count_66 (Eq.refl 69) (by decide) (fun c66 => ?_) (fun c66 => ?_)
                  · refine Ev.iconst dX8_count_83 (Eq.refl 84) ?_
                    refine Ev.iadd dX8_count_84 (Eq.refl 85) ?_
                    refine Ev.is3 dX8_count_85 (Eq.refl 86) (by decide) rfl ?_
                    refine Ev.ii4 dX8_count_86 (Eq.refl 89) (by decide) rfl ?_
                    refine Ev.goto' (pc' := 31) dX8_count_89 (by decide) ?_
                    exact R
                  · exact absurd c66 hf
                · exact absurd c49 hf
          · have e : k = vJ (sV s) := by omega
            subst e
            have A : ∀ x : Int, x = (aCount s w).1 → PM (aCount s w) (some (iv x)) g := fun x hx => ⟨_, rfl, hx, Ig⟩
            have eT := Ig.2.2.1.1
            have eP := Ig.2.2.2.1
            have eR : g.1 2 2 = vR (sV s) := by rw [← Bg.2.2]; rfl
            have eE : g.1 2 3 = vE (sV s) := by rw [← Bg.2.2]; rfl
            refine Ev.iload dX8_count_31 (Eq.refl 33) rfl ?_
            refine Ev.aload_n dX8_count_33 (Eq.refl 34) rfl ?_
            refine Ev.getR dX8_count_34 (Eq.refl 37) fg_X8_13 rfl rfl (rX8_3 hR) ?_
            refine Ev.iconst dX8_count_37 (Eq.refl 38) ?_
            refine Ev.iaload dX8_count_38 (Eq.refl 39) rfl rfl (by omega) (by decide) (show (0 : Int).toNat = 0 from rfl) ?_
            rw [e0]
            refine Ev.icmp_ge (tgt := 92) dX8_count_39 (Eq.refl 42) (by decide) ⟨by omega, by omega⟩ ⟨by omega, by omega⟩ (fun c39 => ?_) (fun c39 => ?_)
            · refine Ev.iload_n dX8_count_92 (Eq.refl 93) rfl ?_
              rcases (by omega : (w < 0 ∨ 7 < w) ∨ w = 0 ∨ w = 1 ∨ w = 2 ∨ w = 3 ∨ w = 4 ∨ w = 5 ∨ w = 6 ∨ w = 7) with c93 | c93 | c93 | c93 | c93 | c93 | c93 | c93 | c93
              · refine Ev.tabOut (tgt := 180) dX8_count_93 ⟨by omega, by omega⟩ (by omega) (by decide) ?_
                refine Ev.aload_n dX8_count_180 (Eq.refl 181) rfl ?_
                refine Ev.getR dX8_count_181 (Eq.refl 184) fg_X8_13 rfl rfl (rX8_3 hR) ?_
                refine Ev.iconst dX8_count_184 (Eq.refl 185) ?_
                refine Ev.iaload dX8_count_185 (Eq.refl 186) rfl rfl (by omega) (by decide) (show (3 : Int).toNat = 3 from rfl) ?_
                rw [eE]
                exact Ev.iret dX8_count_186 rfl (A _ (by show _ = if _ then _ else _; rw [if_neg (by omega), if_neg (by omega), if_neg (by omega), if_neg (by omega), if_neg (by omega), if_neg (by omega), if_neg (by omega), if_neg (by omega), if_pos (by omega)]))
              · refine Ev.tabIn (tgt := 140) (off := 47) dX8_count_93 ⟨by omega, by omega⟩ (by omega) (by omega) (by rw [c93] <;> rfl) (by decide) ?_
                refine Ev.aload_n dX8_count_140 (Eq.refl 141) rfl ?_
                refine Ev.getR dX8_count_141 (Eq.refl 144) fg_X8_13 rfl rfl (rX8_3 hR) ?_
                refine Ev.iconst dX8_count_144 (Eq.refl 145) ?_
                refine Ev.iaload dX8_count_145 (Eq.refl 146) rfl rfl (by omega) (by decide) (show (0 : Int).toNat = 0 from rfl) ?_
                rw [e0]
                exact Ev.iret dX8_count_146 rfl (A _ (by show _ = if _ then _ else _; rw [if_pos c93]))
              · refine Ev.tabIn (tgt := 147) (off := 54) dX8_count_93 ⟨by omega, by omega⟩ (by omega) (by omega) (by rw [c93] <;> rfl) (by decide) ?_
                refine Ev.iload_n dX8_count_147 (Eq.refl 148) rfl ?_
                exact Ev.iret dX8_count_148 rfl (A _ (by show _ = if _ then _ else _; rw [if_neg (by omega), if_pos c93]))
              · refine Ev.tabIn (tgt := 149) (off := 56) dX8_count_93 ⟨by omega, by omega⟩ (by omega) (by omega) (by rw [c93] <;> rfl) (by decide) ?_
                refine Ev.aload_n dX8_count_149 (Eq.refl 150) rfl ?_
                refine Ev.getR dX8_count_150 (Eq.refl 153) fg_X8_13 rfl rfl (rX8_3 hR) ?_
                refine Ev.iconst dX8_count_153 (Eq.refl 154) ?_
                refine Ev.iaload dX8_count_154 (Eq.refl 155) rfl rfl (by omega) (by decide) (show (1 : Int).toNat = 1 from rfl) ?_
                rw [e1]
                exact Ev.iret dX8_count_155 rfl (A _ (by show _ = if _ then _ else _; rw [if_neg (by omega), if_neg (by omega), if_pos c93]))
              · refine Ev.tabIn (tgt := 156) (off := 63) dX8_count_93 ⟨by omega, by omega⟩ (by omega) (by omega) (by rw [c93] <;> rfl) (by decide) ?_
                refine Ev.aload_n dX8_count_156 (Eq.refl 157) rfl ?_
                refine Ev.cv0E dX8_count_157 (Eq.refl 160) cw_X8_199 (Nat.le_of_ble_eq_true rfl) (by decide) rfl rfl rfl (Nat.le_of_ble_eq_true rfl) (q_hanging Bg) ?_
                exact Ev.iret dX8_count_160 rfl (A _ (by show _ = if _ then _ else _; rw [if_neg (by omega), if_neg (by omega), if_neg (by omega), if_pos c93]))
              · refine Ev.tabIn (tgt := 161) (off := 68) dX8_count_93 ⟨by omega, by omega⟩ (by omega) (by omega) (by rw [c93] <;> rfl) (by decide) ?_
                refine Ev.iload_n dX8_count_161 (Eq.refl 162) rfl ?_
                exact Ev.iret dX8_count_162 rfl (A _ (by show _ = if _ then _ else _; rw [if_neg (by omega), if_neg (by omega), if_neg (by omega), if_neg (by omega), if_pos c93]; rfl))
              · refine Ev.tabIn (tgt := 163) (off := 70) dX8_count_93 ⟨by omega, by omega⟩ (by omega) (by omega) (by rw [c93] <;> rfl) (by decide) ?_
                refine Ev.aload_n dX8_count_163 (Eq.refl 164) rfl ?_
                refine Ev.getI dX8_count_164 (Eq.refl 167) fg_X8_128 rfl rfl ?_
                rw [eP]
                exact Ev.iret dX8_count_167 rfl (A _ (by show _ = if _ then _ else _; rw [if_neg (by omega), if_neg (by omega), if_neg (by omega), if_neg (by omega), if_neg (by omega), if_pos c93]))
              · refine Ev.tabIn (tgt := 168) (off := 75) dX8_count_93 ⟨by omega, by omega⟩ (by omega) (by omega) (by rw [c93] <;> rfl) (by decide) ?_
                refine Ev.aload_n dX8_count_168 (Eq.refl 169) rfl ?_
                refine Ev.getI dX8_count_169 (Eq.refl 172) fg_X8_77 rfl rfl ?_
                rw [eT]
                exact Ev.iret dX8_count_172 rfl (A _ (by show _ = if _ then _ else _; rw [if_neg (by omega), if_neg (by omega), if_neg (by omega), if_neg (by omega), if_neg (by omega), if_neg (by omega), if_pos c93]))
              · refine Ev.tabIn (tgt := 173) (off := 80) dX8_count_93 ⟨by omega, by omega⟩ (by omega) (by omega) (by rw [c93] <;> rfl) (by decide) ?_
                refine Ev.aload_n dX8_count_173 (Eq.refl 174) rfl ?_
                refine Ev.getR dX8_count_174 (Eq.refl 177) fg_X8_13 rfl rfl (rX8_3 hR) ?_
                refine Ev.iconst dX8_count_177 (Eq.refl 178) ?_
                refine Ev.iaload dX8_count_178 (Eq.refl 179) rfl rfl (by omega) (by decide) (show (2 : Int).toNat = 2 from rfl) ?_
                rw [eR]
                exact Ev.iret dX8_count_179 rfl (A _ (by show _ = if _ then _ else _; rw [if_neg (by omega), if_neg (by omega), if_neg (by omega), if_neg (by omega), if_neg (by omega), if_neg (by omega), if_neg (by omega), if_pos c93]))
            · omega
      refine Ev.iload_n dX8_count_5 (Eq.refl 6) rfl ?_
      refine Ev.iconst dX8_count_6 (Eq.refl 7) ?_
      refine Ev.bipush dX8_count_7 (Eq.refl 9) (by decide) ?_
      refine Ev.cs3E dX8_count_9 (Eq.refl 12) cw_X8_73 (Nat.le_of_ble_eq_true rfl) (by decide) rfl (Nat.le_of_ble_eq_true rfl) (m_in (by assumption) (by assumption) (by assumption)) ?_
      refine Ev.if_neB (tgt := 17) dX8_count_12 (Eq.refl 15) (by decide) (fun c12 => ?_) (fun c12 => ?_)
      · refine Ev.aload_n dX8_count_17 (Eq.refl 18) rfl ?_
        refine Ev.bipush dX8_count_18 (Eq.refl 20) (by decide) ?_
        refine Ev.cv1I dX8_count_20 (Eq.refl 23) cw_X8_150 (Nat.le_of_ble_eq_true rfl) (by decide) rfl rfl rfl (Nat.le_of_ble_eq_true rfl) (cH) (fun x20 g20 hp20 => ?_)
        obtain ⟨hF20, rfl, h7⟩ := hp20
        refine Ev.popV dX8_count_23 (Eq.refl 24) rfl ?_
        refine Ev.iconst dX8_count_24 (Eq.refl 25) ?_
        refine Ev.is2 dX8_count_25 (Eq.refl 26) (by decide) rfl ?_
        refine Ev.iconst dX8_count_26 (Eq.refl 27) ?_
        refine Ev.is3 dX8_count_27 (Eq.refl 28) (by decide) rfl ?_
        refine Ev.iconst dX8_count_28 (Eq.refl 29) ?_
        refine Ev.is4 dX8_count_29 (Eq.refl 31) (by decide) rfl ?_
        exact LOOP _ (I.k (Lk.rf.f7 hF20).k) h7 _ 0 rfl (by omega)
      · exact absurd c c12
    · have ea : aCount s w = (-1, s) := Prod.ext (by show (if _ then _ else _) = _; rw [if_neg (by omega), if_neg (by omega), if_neg (by omega), if_neg (by omega), if_neg (by omega), if_neg (by omega), if_neg (by omega), if_neg (by omega), if_neg (by omega)]) rfl
      refine Ev.iload_n dX8_count_5 (Eq.refl 6) rfl ?_
      refine Ev.iconst dX8_count_6 (Eq.refl 7) ?_
      refine Ev.bipush dX8_count_7 (Eq.refl 9) (by decide) ?_
      refine Ev.cs3E dX8_count_9 (Eq.refl 12) cw_X8_73 (Nat.le_of_ble_eq_true rfl) (by decide) rfl (Nat.le_of_ble_eq_true rfl) (m_in (by assumption) (by assumption) (by assumption)) ?_
      refine Ev.if_neB (tgt := 17) dX8_count_12 (Eq.refl 15) (by decide) (fun c12 => ?_) (fun c12 => ?_)
      · exact absurd c12 c
      · refine Ev.iconst dX8_count_15 (Eq.refl 16) ?_
        exact Ev.iret dX8_count_16 rfl ((by rw [ea]; exact ⟨_, rfl, rfl, I⟩))
  refine Ev.aload_n dX8_count_0 (Eq.refl 1) rfl ?_
  refine Ev.iconst dX8_count_1 (Eq.refl 2) ?_
  refine Ev.putI dX8_count_2 (Eq.refl 5) fp_X8_69 rfl rfl (Or.inl rfl) ?_
  exact TAIL _ (I.k (Mk.rf.w (by omega)))
end MQ3
