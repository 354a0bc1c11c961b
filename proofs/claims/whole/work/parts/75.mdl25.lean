/-! The model: rolls, rollOf -/
section RL
variable {h : Hp} {s : St}
theorem m_rolls {w : Int} (I : MInv h s) (hw : I32 w) : Ev mX8_rolls 5 0 (entL [.ref 0, iv w] 4) [] h (PM (aRolls s w)) := by
  show Ev mX8_rolls 5 0 [some (.ref 0), some (iv w), none, none] [] h _
  have TAIL : ∀ h, MInv h s → Ev mX8_rolls 5 5 [some (.ref 0), some (iv w), none, none] [] h (PM (aRolls s w)) := by
    intro h I
    have B := I.B
    have hv := B.vk
    have hS14 := hv.2.1
    have i0 : I32 0 := ⟨by omega, by omega⟩
    have i2 : I32 2 := ⟨by omega, by omega⟩
    by_cases c : 0 ≤ w ∧ w ≤ 2
    · by_cases ha : aH (sV s) (hgV (sV s))
      · by_cases fa : fitAll (sV s)
        · have ea : aRolls s w = (if w = 0 then ((ffV (sV s)).2 : Int) else if w = 1 then minV (sV s) else sm (ffV (sV s)).1 (ffV (sV s)).2, s) := Prod.ext ((if_pos c).trans ((cif_t ha).trans (cif_t fa))) rfl
          obtain ⟨P, o, hP, io⟩ := isOrd_ex (v := sV s)
          have e1 : (ffV (sV s)) = ff (Zr (sV s)) (xs (sV s) P o) P := ffV_of io
          have x0 := xs_0 hv ha io
          have bR := hv.2.2.2.2.2.2.2
          have xZ : ∀ i, xs (sV s) P o i ≤ Zr (sV s) := fun i => by
            unfold xs
            by_cases q : i < P
            · rw [if_pos q]; exact fa _ (io.1 i q).1 (io.1 i q).2
            · rw [if_neg q]; show (0 : Int) ≤ 100 * vR (sV s); omega
          obtain ⟨n1, n2, n3, n4⟩ := ff_inv (Z := Zr (sV s)) (x := xs (sV s) P o) P (by omega) (fun i _ => ⟨x0 i, xZ i⟩)
          have TL : ∀ (g : Hp), MInv g s → FFd g (sV s) P o P → w ≠ 1 → ∀ (m k : Nat), (ffV (sV s)).2 - k = m → k ≤ (ffV (sV s)).2 → Ev mX8_rolls 5 54 [some (.ref 0), some (iv w), some (iv (sm (ffV (sV s)).1 k)), some (iv (k : Int))] [] g (PM (aRolls s w)) := by
            intro g Ig FD w1 m
            have hR := Ig.1
            obtain ⟨d1, d2, _, _⟩ := FD
            rw [← e1] at d1 d2 n1
            induction m using Nat.strongRecOn with
            | ind m ih =>
              intro k hm hk
              by_cases hk2 : k < (ffV (sV s)).2
              · have dk := d1 k (by omega)
                refine Ev.iload_n dX8_rolls_54 (Eq.refl 55) rfl ?_
                refine Ev.aload_n dX8_rolls_55 (Eq.refl 56) rfl ?_
                refine Ev.getI dX8_rolls_56 (Eq.refl 59) fg_X8_224 rfl rfl ?_
                rw [d2]
                refine Ev.icmp_ge (tgt := 77) dX8_rolls_59 (Eq.refl 62) (by decide) ⟨by omega, by omega⟩ ⟨by omega, by omega⟩ (fun c59 => ?_) (fun c59 => ?_)
                · omega
                · refine Ev.iload_n dX8_rolls_62 (Eq.refl 63) rfl ?_
                  refine Ev.aload_n dX8_rolls_63 (Eq.refl 64) rfl ?_
                  refine Ev.getR dX8_rolls_64 (Eq.refl 67) fg_X8_52 rfl rfl (rX8_20 hR) ?_
                  refine Ev.iload_n dX8_rolls_67 (Eq.refl 68) rfl ?_
                  refine Ev.iaload dX8_rolls_68 (Eq.refl 69) rfl rfl (by omega) (by decide) (by first | with_reducible exact Int.toNat_natCast _ | exact Eq.refl _) ?_
                  rw [dk]
                  refine Ev.iadd dX8_rolls_69 (Eq.refl 70) ?_
                  refine Ev.is2 dX8_rolls_70 (Eq.refl 71) (by decide) rfl ?_
                  refine Ev.ii3 dX8_rolls_71 (Eq.refl 74) (by decide) rfl ?_
                  refine Ev.goto' (pc' := 54) dX8_rolls_74 (by decide) ?_
                  exact ih _ (by omega) (k + 1) rfl (by omega)
              · have e : k = (ffV (sV s)).2 := by omega
                subst e
                refine Ev.iload_n dX8_rolls_54 (Eq.refl 55) rfl ?_
                refine Ev.aload_n dX8_rolls_55 (Eq.refl 56) rfl ?_
                refine Ev.getI dX8_rolls_56 (Eq.refl 59) fg_X8_224 rfl rfl ?_
                rw [d2]
                refine Ev.icmp_ge (tgt := 77) dX8_rolls_59 (Eq.refl 62) (by decide) ⟨by omega, by omega⟩ ⟨by omega, by omega⟩ (fun c59 => ?_) (fun c59 => ?_)
                · refine Ev.iload_n dX8_rolls_77 (Eq.refl 78) rfl ?_
                  refine Ev.if_ne (tgt := 88) dX8_rolls_78 (Eq.refl 81) (by decide) ⟨by omega, by omega⟩ (fun c78 => ?_) (fun c78 => ?_)
                  · refine Ev.iload_n dX8_rolls_88 (Eq.refl 89) rfl ?_
                    exact Ev.iret dX8_rolls_89 rfl ((by rw [ea]; exact ⟨_, rfl, by show _ = if _ then _ else _; first | rw [if_pos (by omega)] | rw [if_neg (by omega), if_neg (by omega)], Ig⟩))
                  · refine Ev.aload_n dX8_rolls_81 (Eq.refl 82) rfl ?_
                    refine Ev.getI dX8_rolls_82 (Eq.refl 85) fg_X8_224 rfl rfl ?_
                    rw [d2]
                    refine Ev.goto' (pc' := 89) dX8_rolls_85 (by decide) ?_
                    exact Ev.iret dX8_rolls_89 rfl ((by rw [ea]; exact ⟨_, rfl, by show _ = if _ then _ else _; first | rw [if_pos (by omega)] | rw [if_neg (by omega), if_neg (by omega)], Ig⟩))
                · omega
          refine Ev.iload_n dX8_rolls_5 (Eq.refl 6) rfl ?_
          refine Ev.iconst dX8_rolls_6 (Eq.refl 7) ?_
          refine Ev.iconst dX8_rolls_7 (Eq.refl 8) ?_
          refine Ev.cs3E dX8_rolls_8 (Eq.refl 11) cw_X8_73 (Nat.le_of_ble_eq_true rfl) (by decide) rfl (Nat.le_of_ble_eq_true rfl) (m_in (by assumption) (by assumption) (by assumption)) ?_
          refine Ev.if_neB (tgt := 16) dX8_rolls_11 (Eq.refl 14) (by decide) (fun c11 => ?_) (fun c11 => ?_)
          · refine Ev.aload_n dX8_rolls_16 (Eq.refl 17) rfl ?_
            refine Ev.cv0I dX8_rolls_17 (Eq.refl 20) cw_X8_202 (Nat.le_of_ble_eq_true rfl) (by decide) rfl rfl rfl (Nat.le_of_ble_eq_true rfl) (q_lays B) (fun x17 g17 hp17 => ?_)
            have M := MS.of B hp17 ha
            obtain ⟨hK, rfl, h7, _⟩ := hp17
            have I2 := I.k hK.k
            refine Ev.if_neB (tgt := 26) dX8_rolls_20 (Eq.refl 23) (by decide) (fun c20 => ?_) (fun c20 => ?_)
            · refine Ev.aload_n dX8_rolls_26 (Eq.refl 27) rfl ?_
              refine Ev.cv0I dX8_rolls_27 (Eq.refl 30) cw_X8_234 (Nat.le_of_ble_eq_true rfl) (by decide) rfl rfl rfl (Nat.le_of_ble_eq_true rfl) (m_laysPieces M) (fun x27 g27 hp27 => ?_)
              obtain ⟨hC, rfl, pcs⟩ := hp27
              have I3 := I2.k hC.k
              refine Ev.if_neB (tgt := 36) dX8_rolls_30 (Eq.refl 33) (by decide) (fun c30 => ?_) (fun c30 => ?_)
              · refine Ev.iload_n dX8_rolls_36 (Eq.refl 37) rfl ?_
                refine Ev.iconst dX8_rolls_37 (Eq.refl 38) ?_
                refine Ev.icmp_ne (tgt := 46) dX8_rolls_38 (Eq.refl 41) (by decide) ⟨by omega, by omega⟩ ⟨by omega, by omega⟩ (fun c38 => ?_) (fun c38 => ?_)
                · refine Ev.aload_n dX8_rolls_46 (Eq.refl 47) rfl ?_
                  refine Ev.cv0V dX8_rolls_47 (Eq.refl 50) cw_X8_240 (Nat.le_of_ble_eq_true rfl) (by decide) rfl rfl rfl (Nat.le_of_ble_eq_true rfl) (m_firstFit I3.B ha pcs fa io hP) (fun g47 hp47 => ?_)
                  obtain ⟨hC2, FD⟩ := hp47
                  refine Ev.iconst dX8_rolls_50 (Eq.refl 51) ?_
                  refine Ev.is2 dX8_rolls_51 (Eq.refl 52) (by decide) rfl ?_
                  refine Ev.iconst dX8_rolls_52 (Eq.refl 53) ?_
                  refine Ev.is3 dX8_rolls_53 (Eq.refl 54) (by decide) rfl ?_
                  exact TL _ (I3.k hC2.k) FD (by omega) _ 0 rfl (by omega)
                · refine Ev.aload_n dX8_rolls_41 (Eq.refl 42) rfl ?_
                  refine Ev.cv0I dX8_rolls_42 (Eq.refl 45) cw_X8_237 (Nat.le_of_ble_eq_true rfl) (by decide) rfl rfl rfl (Nat.le_of_ble_eq_true rfl) (m_fewest I3.B ha pcs fa) (fun x42 g42 hp42 => ?_)
                  obtain ⟨hC2, mn⟩ := hp42
                  exact Ev.iret dX8_rolls_45 rfl ((by rw [ea]; exact ⟨_, rfl, by show _ = if _ then _ else _; rw [if_neg (by omega), if_pos (by omega)]; exact (minV_of mn).symm, I3.k hC2.k⟩))
              · exact absurd fa c30
            · exact absurd ha c20
          · exact absurd c c11
        · have ea : aRolls s w = (-4, s) := Prod.ext ((if_pos c).trans ((cif_t ha).trans (cif_f fa))) rfl
          refine Ev.iload_n dX8_rolls_5 (Eq.refl 6) rfl ?_
          refine Ev.iconst dX8_rolls_6 (Eq.refl 7) ?_
          refine Ev.iconst dX8_rolls_7 (Eq.refl 8) ?_
          refine Ev.cs3E dX8_rolls_8 (Eq.refl 11) cw_X8_73 (Nat.le_of_ble_eq_true rfl) (by decide) rfl (Nat.le_of_ble_eq_true rfl) (m_in (by assumption) (by assumption) (by assumption)) ?_
          refine Ev.if_neB (tgt := 16) dX8_rolls_11 (Eq.refl 14) (by decide) (fun c11 => ?_) (fun c11 => ?_)
          · refine Ev.aload_n dX8_rolls_16 (Eq.refl 17) rfl ?_
            refine Ev.cv0I dX8_rolls_17 (Eq.refl 20) cw_X8_202 (Nat.le_of_ble_eq_true rfl) (by decide) rfl rfl rfl (Nat.le_of_ble_eq_true rfl) (q_lays B) (fun x17 g17 hp17 => ?_)
            have M := MS.of B hp17 ha
            obtain ⟨hK, rfl, h7, _⟩ := hp17
            have I2 := I.k hK.k
            refine Ev.if_neB (tgt := 26) dX8_rolls_20 (Eq.refl 23) (by decide) (fun c20 => ?_) (fun c20 => ?_)
            · refine Ev.aload_n dX8_rolls_26 (Eq.refl 27) rfl ?_
              refine Ev.cv0I dX8_rolls_27 (Eq.refl 30) cw_X8_234 (Nat.le_of_ble_eq_true rfl) (by decide) rfl rfl rfl (Nat.le_of_ble_eq_true rfl) (m_laysPieces M) (fun x27 g27 hp27 => ?_)
              obtain ⟨hC, rfl, pcs⟩ := hp27
              have I3 := I2.k hC.k
              refine Ev.if_neB (tgt := 36) dX8_rolls_30 (Eq.refl 33) (by decide) (fun c30 => ?_) (fun c30 => ?_)
              · exact absurd c30 fa
              · refine Ev.bipush dX8_rolls_33 (Eq.refl 35) (by decide) ?_
                exact Ev.iret dX8_rolls_35 rfl ((by rw [ea]; exact ⟨_, rfl, rfl, I3⟩))
            · exact absurd ha c20
          · exact absurd c c11
      · have ea : aRolls s w = (-2, s) := Prod.ext ((if_pos c).trans (cif_f ha)) rfl
        refine Ev.iload_n dX8_rolls_5 (Eq.refl 6) rfl ?_
        refine Ev.iconst dX8_rolls_6 (Eq.refl 7) ?_
        refine Ev.iconst dX8_rolls_7 (Eq.refl 8) ?_
        refine Ev.cs3E dX8_rolls_8 (Eq.refl 11) cw_X8_73 (Nat.le_of_ble_eq_true rfl) (by decide) rfl (Nat.le_of_ble_eq_true rfl) (m_in (by assumption) (by assumption) (by assumption)) ?_
        refine Ev.if_neB (tgt := 16) dX8_rolls_11 (Eq.refl 14) (by decide) (fun c11 => ?_) (fun c11 => ?_)
        · refine Ev.aload_n dX8_rolls_16 (Eq.refl 17) rfl ?_
          refine Ev.cv0I dX8_rolls_17 (Eq.refl 20) cw_X8_202 (Nat.le_of_ble_eq_true rfl) (by decide) rfl rfl rfl (Nat.le_of_ble_eq_true rfl) (q_lays B) (fun x17 g17 hp17 => ?_)
          obtain ⟨hK, rfl, h7, _⟩ := hp17
          refine Ev.if_neB (tgt := 26) dX8_rolls_20 (Eq.refl 23) (by decide) (fun c20 => ?_) (fun c20 => ?_)
          · exact absurd c20 ha
          · refine Ev.bipush dX8_rolls_23 (Eq.refl 25) (by decide) ?_
            exact Ev.iret dX8_rolls_25 rfl ((by rw [ea]; exact ⟨_, rfl, rfl, I.k hK.k⟩))
        · exact absurd c c11
    · have ea : aRolls s w = (-1, s) := Prod.ext (if_neg c) rfl
      refine Ev.iload_n dX8_rolls_5 (Eq.refl 6) rfl ?_
      refine Ev.iconst dX8_rolls_6 (Eq.refl 7) ?_
      refine Ev.iconst dX8_rolls_7 (Eq.refl 8) ?_
      refine Ev.cs3E dX8_rolls_8 (Eq.refl 11) cw_X8_73 (Nat.le_of_ble_eq_true rfl) (by decide) rfl (Nat.le_of_ble_eq_true rfl) (m_in (by assumption) (by assumption) (by assumption)) ?_
      refine Ev.if_neB (tgt := 16) dX8_rolls_11 (Eq.refl 14) (by decide) (fun c11 => ?_) (fun c11 => ?_)
      · exact absurd c11 c
      · refine Ev.iconst dX8_rolls_14 (Eq.refl 15) ?_
        exact Ev.iret dX8_rolls_15 rfl ((by rw [ea]; exact ⟨_, rfl, rfl, I⟩))
  refine Ev.aload_n dX8_rolls_0 (Eq.refl 1) rfl ?_
  refine Ev.iconst dX8_rolls_1 (Eq.refl 2) ?_
  refine Ev.putI dX8_rolls_2 (Eq.refl 5) fp_X8_69 rfl rfl (Or.inl rfl) ?_
  exact TAIL _ (I.k (Mk.rf.w (by omega)))
theorem m_rollOf {k : Int} (I : MInv h s) (hk : I32 k) : Ev mX8_rollOf 5 0 (entL [.ref 0, iv k] 2) [] h (PM (aRollOf s k)) := by
  show Ev mX8_rollOf 5 0 [some (.ref 0), some (iv k)] [] h _
  have TAIL : ∀ h, MInv h s → Ev mX8_rollOf 5 5 [some (.ref 0), some (iv k)] [] h (PM (aRollOf s k)) := by
    intro h I
    have B := I.B
    have hv := B.vk
    have hS14 := hv.2.1
    by_cases c : isS (sV s) k
    · by_cases ha : aH (sV s) (hgV (sV s))
      · have ea : aRollOf s k = (if vH (sV s) k.toNat = true then cif (fitAll (sV s)) (rofV (sV s) k.toNat) (-4) else -4, s) := Prod.ext ((if_pos c).trans (cif_t ha)) rfl
        obtain ⟨n, rfl⟩ := Int.eq_ofNat_of_zero_le c.1
        rw [Int.toNat_natCast] at ea
        have hn : n < vS (sV s) := by have := c.2; omega
        by_cases hh : vH (sV s) n = true
        · rw [if_pos hh] at ea
          by_cases fa : fitAll (sV s)
          · rw [cif_t fa] at ea
            obtain ⟨P, o, hP, io⟩ := isOrd_ex (v := sV s)
            obtain ⟨i, i1, i2⟩ := io.2.2 n hn hh
            have er := rofV_of io i1
            rw [i2] at er
            refine Ev.aload_n dX8_rollOf_5 (Eq.refl 6) rfl ?_
            refine Ev.iload_n dX8_rollOf_6 (Eq.refl 7) rfl ?_
            refine Ev.cv1E dX8_rollOf_7 (Eq.refl 10) cw_X8_190 (Nat.le_of_ble_eq_true rfl) (by decide) rfl rfl rfl (Nat.le_of_ble_eq_true rfl) (q_isStrand B hk) ?_
            refine Ev.if_neB (tgt := 15) dX8_rollOf_10 (Eq.refl 13) (by decide) (fun c10 => ?_) (fun c10 => ?_)
            · refine Ev.aload_n dX8_rollOf_15 (Eq.refl 16) rfl ?_
              refine Ev.cv0I dX8_rollOf_16 (Eq.refl 19) cw_X8_202 (Nat.le_of_ble_eq_true rfl) (by decide) rfl rfl rfl (Nat.le_of_ble_eq_true rfl) (q_lays B) (fun x16 g16 hp16 => ?_)
              have M := MS.of B hp16 ha
              obtain ⟨hK, rfl, h7, _⟩ := hp16
              have I2 := I.k hK.k
              refine Ev.if_neB (tgt := 25) dX8_rollOf_19 (Eq.refl 22) (by decide) (fun c19 => ?_) (fun c19 => ?_)
              · refine Ev.aload_n dX8_rollOf_25 (Eq.refl 26) rfl ?_
                refine Ev.iload_n dX8_rollOf_26 (Eq.refl 27) rfl ?_
                refine Ev.cv1E dX8_rollOf_27 (Eq.refl 30) cw_X8_137 (Nat.le_of_ble_eq_true rfl) (by decide) rfl rfl rfl (Nat.le_of_ble_eq_true rfl) (q_hangs M.1 hn) ?_
                refine Ev.if_eqB (tgt := 40) dX8_rollOf_30 (Eq.refl 33) (by decide) (fun c30 => ?_) (fun c30 => ?_)
                · exact absurd hh c30
                · refine Ev.aload_n dX8_rollOf_33 (Eq.refl 34) rfl ?_
                  refine Ev.cv0I dX8_rollOf_34 (Eq.refl 37) cw_X8_234 (Nat.le_of_ble_eq_true rfl) (by decide) rfl rfl rfl (Nat.le_of_ble_eq_true rfl) (m_laysPieces M) (fun x34 g34 hp34 => ?_)
                  obtain ⟨hC, rfl, pcs⟩ := hp34
                  have I3 := I2.k hC.k
                  refine Ev.if_neB (tgt := 43) dX8_rollOf_37 (Eq.refl 40) (by decide) (fun c37 => ?_) (fun c37 => ?_)
                  · refine Ev.aload_n dX8_rollOf_43 (Eq.refl 44) rfl ?_
                    refine Ev.cv0V dX8_rollOf_44 (Eq.refl 47) cw_X8_240 (Nat.le_of_ble_eq_true rfl) (by decide) rfl rfl rfl (Nat.le_of_ble_eq_true rfl) (m_firstFit I3.B ha pcs fa io hP) (fun g44 hp44 => ?_)
                    obtain ⟨hC2, FD⟩ := hp44
                    have I4 := I3.k hC2.k
                    have hR := I4.1
                    have dn := FD.2.2.1 i i1
                    rw [i2] at dn
                    refine Ev.aload_n dX8_rollOf_47 (Eq.refl 48) rfl ?_
                    refine Ev.getR dX8_rollOf_48 (Eq.refl 51) fg_X8_49 rfl rfl (rX8_19 hR) ?_
                    refine Ev.iload_n dX8_rollOf_51 (Eq.refl 52) rfl ?_
                    refine Ev.iaload dX8_rollOf_52 (Eq.refl 53) rfl rfl (by omega) (by decide) (by first | with_reducible exact Int.toNat_natCast _ | exact Eq.refl _) ?_
                    rw [dn]
                    exact Ev.iret dX8_rollOf_53 rfl ((by rw [ea]; exact ⟨_, rfl, er.symm, I4⟩))
                  · exact absurd fa c37
              · exact absurd ha c19
            · exact absurd c c10
          · rw [cif_f fa] at ea
            refine Ev.aload_n dX8_rollOf_5 (Eq.refl 6) rfl ?_
            refine Ev.iload_n dX8_rollOf_6 (Eq.refl 7) rfl ?_
            refine Ev.cv1E dX8_rollOf_7 (Eq.refl 10) cw_X8_190 (Nat.le_of_ble_eq_true rfl) (by decide) rfl rfl rfl (Nat.le_of_ble_eq_true rfl) (q_isStrand B hk) ?_
            refine Ev.if_neB (tgt := 15) dX8_rollOf_10 (Eq.refl 13) (by decide) (fun c10 => ?_) (fun c10 => ?_)
            · refine Ev.aload_n dX8_rollOf_15 (Eq.refl 16) rfl ?_
              refine Ev.cv0I dX8_rollOf_16 (Eq.refl 19) cw_X8_202 (Nat.le_of_ble_eq_true rfl) (by decide) rfl rfl rfl (Nat.le_of_ble_eq_true rfl) (q_lays B) (fun x16 g16 hp16 => ?_)
              have M := MS.of B hp16 ha
              obtain ⟨hK, rfl, h7, _⟩ := hp16
              have I2 := I.k hK.k
              refine Ev.if_neB (tgt := 25) dX8_rollOf_19 (Eq.refl 22) (by decide) (fun c19 => ?_) (fun c19 => ?_)
              · refine Ev.aload_n dX8_rollOf_25 (Eq.refl 26) rfl ?_
                refine Ev.iload_n dX8_rollOf_26 (Eq.refl 27) rfl ?_
                refine Ev.cv1E dX8_rollOf_27 (Eq.refl 30) cw_X8_137 (Nat.le_of_ble_eq_true rfl) (by decide) rfl rfl rfl (Nat.le_of_ble_eq_true rfl) (q_hangs M.1 hn) ?_
                refine Ev.if_eqB (tgt := 40) dX8_rollOf_30 (Eq.refl 33) (by decide) (fun c30 => ?_) (fun c30 => ?_)
                · exact absurd hh c30
                · refine Ev.aload_n dX8_rollOf_33 (Eq.refl 34) rfl ?_
                  refine Ev.cv0I dX8_rollOf_34 (Eq.refl 37) cw_X8_234 (Nat.le_of_ble_eq_true rfl) (by decide) rfl rfl rfl (Nat.le_of_ble_eq_true rfl) (m_laysPieces M) (fun x34 g34 hp34 => ?_)
                  obtain ⟨hC, rfl, pcs⟩ := hp34
                  have I3 := I2.k hC.k
                  refine Ev.if_neB (tgt := 43) dX8_rollOf_37 (Eq.refl 40) (by decide) (fun c37 => ?_) (fun c37 => ?_)
                  · exact absurd c37 fa
                  · refine Ev.bipush dX8_rollOf_40 (Eq.refl 42) (by decide) ?_
                    exact Ev.iret dX8_rollOf_42 rfl ((by rw [ea]; exact ⟨_, rfl, rfl, I3⟩))
              · exact absurd ha c19
            · exact absurd c c10
        · rw [if_neg hh] at ea
          refine Ev.aload_n dX8_rollOf_5 (Eq.refl 6) rfl ?_
          refine Ev.iload_n dX8_rollOf_6 (Eq.refl 7) rfl ?_
          refine Ev.cv1E dX8_rollOf_7 (Eq.refl 10) cw_X8_190 (Nat.le_of_ble_eq_true rfl) (by decide) rfl rfl rfl (Nat.le_of_ble_eq_true rfl) (q_isStrand B hk) ?_
          refine Ev.if_neB (tgt := 15) dX8_rollOf_10 (Eq.refl 13) (by decide) (fun c10 => ?_) (fun c10 => ?_)
          · refine Ev.aload_n dX8_rollOf_15 (Eq.refl 16) rfl ?_
            refine Ev.cv0I dX8_rollOf_16 (Eq.refl 19) cw_X8_202 (Nat.le_of_ble_eq_true rfl) (by decide) rfl rfl rfl (Nat.le_of_ble_eq_true rfl) (q_lays B) (fun x16 g16 hp16 => ?_)
            have M := MS.of B hp16 ha
            obtain ⟨hK, rfl, h7, _⟩ := hp16
            have I2 := I.k hK.k
            refine Ev.if_neB (tgt := 25) dX8_rollOf_19 (Eq.refl 22) (by decide) (fun c19 => ?_) (fun c19 => ?_)
            · refine Ev.aload_n dX8_rollOf_25 (Eq.refl 26) rfl ?_
              refine Ev.iload_n dX8_rollOf_26 (Eq.refl 27) rfl ?_
              refine Ev.cv1E dX8_rollOf_27 (Eq.refl 30) cw_X8_137 (Nat.le_of_ble_eq_true rfl) (by decide) rfl rfl rfl (Nat.le_of_ble_eq_true rfl) (q_hangs M.1 hn) ?_
              refine Ev.if_eqB (tgt := 40) dX8_rollOf_30 (Eq.refl 33) (by decide) (fun c30 => ?_) (fun c30 => ?_)
              · refine Ev.bipush dX8_rollOf_40 (Eq.refl 42) (by decide) ?_
                exact Ev.iret dX8_rollOf_42 rfl ((by rw [ea]; exact ⟨_, rfl, rfl, I2⟩))
              · exact absurd c30 hh
            · exact absurd ha c19
          · exact absurd c c10
      · have ea : aRollOf s k = (-2, s) := Prod.ext ((if_pos c).trans (cif_f ha)) rfl
        refine Ev.aload_n dX8_rollOf_5 (Eq.refl 6) rfl ?_
        refine Ev.iload_n dX8_rollOf_6 (Eq.refl 7) rfl ?_
        refine Ev.cv1E dX8_rollOf_7 (Eq.refl 10) cw_X8_190 (Nat.le_of_ble_eq_true rfl) (by decide) rfl rfl rfl (Nat.le_of_ble_eq_true rfl) (q_isStrand B hk) ?_
        refine Ev.if_neB (tgt := 15) dX8_rollOf_10 (Eq.refl 13) (by decide) (fun c10 => ?_) (fun c10 => ?_)
        · refine Ev.aload_n dX8_rollOf_15 (Eq.refl 16) rfl ?_
          refine Ev.cv0I dX8_rollOf_16 (Eq.refl 19) cw_X8_202 (Nat.le_of_ble_eq_true rfl) (by decide) rfl rfl rfl (Nat.le_of_ble_eq_true rfl) (q_lays B) (fun x16 g16 hp16 => ?_)
          obtain ⟨hK, rfl, h7, _⟩ := hp16
          refine Ev.if_neB (tgt := 25) dX8_rollOf_19 (Eq.refl 22) (by decide) (fun c19 => ?_) (fun c19 => ?_)
          · exact absurd c19 ha
          · refine Ev.bipush dX8_rollOf_22 (Eq.refl 24) (by decide) ?_
            exact Ev.iret dX8_rollOf_24 rfl ((by rw [ea]; exact ⟨_, rfl, rfl, I.k hK.k⟩))
        · exact absurd c c10
    · have ea : aRollOf s k = (-1, s) := Prod.ext (if_neg c) rfl
      refine Ev.aload_n dX8_rollOf_5 (Eq.refl 6) rfl ?_
      refine Ev.iload_n dX8_rollOf_6 (Eq.refl 7) rfl ?_
      refine Ev.cv1E dX8_rollOf_7 (Eq.refl 10) cw_X8_190 (Nat.le_of_ble_eq_true rfl) (by decide) rfl rfl rfl (Nat.le_of_ble_eq_true rfl) (q_isStrand B hk) ?_
      refine Ev.if_neB (tgt := 15) dX8_rollOf_10 (Eq.refl 13) (by decide) (fun c10 => ?_) (fun c10 => ?_)
      · exact absurd c10 c
      · refine Ev.iconst dX8_rollOf_13 (Eq.refl 14) ?_
        exact Ev.iret dX8_rollOf_14 rfl ((by rw [ea]; exact ⟨_, rfl, rfl, I⟩))
  refine Ev.aload_n dX8_rollOf_0 (Eq.refl 1) rfl ?_
  refine Ev.iconst dX8_rollOf_1 (Eq.refl 2) ?_
  refine Ev.putI dX8_rollOf_2 (Eq.refl 5) fp_X8_69 rfl rfl (Or.inl rfl) ?_
  exact TAIL _ (I.k (Mk.rf.w (by omega)))
end RL
