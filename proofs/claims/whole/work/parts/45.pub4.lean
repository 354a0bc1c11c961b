/-! The class's calls: joint, exact, bears, strand, greatest, rolls, rollOf, count. -/
theorem arndB {h : Hp} {n j : Nat} {x : Int} (ok : NOk h n) (hx : isSAt h n (j : Int) (h.1 n 2).toNat x) : ∀ i, tb (((x.toNat &&& (h.1 n 3).toNat : Nat) : Int)) i ↔ i < vS (cV h n) ∧ atH (cV h n) j i := fun i => by
  constructor
  · intro z
    have hi : i < vS (cV h n) := ((hx.2.2 i).mp (tb_and.mp z).1).1
    exact ⟨hi, (arnd ok hx hi).mp z⟩
  · rintro ⟨hi, z⟩
    exact (arnd ok hx hi).mpr z
theorem p_joint0 {h : Hp} {s : St} {j w : Int} (I : CInv h s) (hj : I32 j) (hw : I32 w) (hb : ¬ (isJ (sV s) j ∧ 0 ≤ w ∧ w ≤ 7)) : Ev mX7_joint 4 0 (entL [.ref 0, iv j, iv w] 4) [] h (PA (aJoint s j w)) := by
  show Ev mX7_joint 4 0 [some (.ref 0), some (iv j), some (iv w), none] [] h _
  have I' := I
  obtain ⟨hR, ⟨n, d, hnd, hN, hD, ok, hV⟩, hT, hP⟩ := I
  have hn : isNet n := by omega
  have bJ := ok.1
  have eJ := cV_J ok
  rw [hV] at eJ
  have i0 : I32 0 := ⟨by omega, by omega⟩
  have i7 : I32 7 := ⟨by omega, by omega⟩
  have e : aJoint s j w = (-1, s) := Prod.ext (if_neg hb) rfl
  refine Ev.aload_n dX7_joint_0 (Eq.refl 1) rfl ?_
  refine Ev.getR dX7_joint_1 (Eq.refl 4) fg_X7_54 rfl rfl hN ?_
  refine Ev.iload_n dX7_joint_4 (Eq.refl 5) rfl ?_
  refine Ev.cv1E dX7_joint_5 (Eq.refl 8) cw_X7_110 (Nat.le_of_ble_eq_true rfl) (by decide) (lyN0 (by assumption)) rfl rfl (Nat.le_of_ble_eq_true rfl) (c_hasJoint (by assumption) (by assumption) (by omega)) ?_
  refine Ev.if_eqB (tgt := 21) dX7_joint_8 (Eq.refl 11) (by decide) (fun c8 => ?_) (fun c8 => ?_)
  · refine Ev.iconst dX7_joint_21 (Eq.refl 22) ?_
    exact Ev.iret dX7_joint_22 rfl ((by rw [e]; exact ⟨_, rfl, rfl, I'⟩))
  · refine Ev.iload_n dX7_joint_11 (Eq.refl 12) rfl ?_
    refine Ev.iconst dX7_joint_12 (Eq.refl 13) ?_
    refine Ev.bipush dX7_joint_13 (Eq.refl 15) (by decide) ?_
    refine Ev.cs3E dX7_joint_15 (Eq.refl 18) cw_X7_85 (Nat.le_of_ble_eq_true rfl) (by decide) rfl (Nat.le_of_ble_eq_true rfl) (c_isWithin (by assumption) (by assumption) (by assumption)) ?_
    refine Ev.if_neB (tgt := 23) dX7_joint_18 (Eq.refl 21) (by decide) (fun c18 => ?_) (fun c18 => ?_)
    · exact absurd ⟨⟨c8.1, by omega⟩, c18⟩ hb
    · refine Ev.iconst dX7_joint_21 (Eq.refl 22) ?_
      exact Ev.iret dX7_joint_22 rfl ((by rw [e]; exact ⟨_, rfl, rfl, I'⟩))
theorem p_joint1 {h : Hp} {s : St} {j w : Int} (I : CInv h s) (hj : I32 j) (hw : I32 w) (hb : isJ (sV s) j ∧ 0 ≤ w ∧ w ≤ 7) (hw2 : w = 0 ∨ w = 4 ∨ w = 5 ∨ w = 6) : Ev mX7_joint 4 0 (entL [.ref 0, iv j, iv w] 4) [] h (PA (aJoint s j w)) := by
  show Ev mX7_joint 4 0 [some (.ref 0), some (iv j), some (iv w), none] [] h _
  have I' := I
  obtain ⟨hR, ⟨n, d, hnd, hN, hD, ok, hV⟩, hT, hP⟩ := I
  have hn : isNet n := by omega
  have bJ := ok.1
  have eJ := cV_J ok
  have bS := ok.2.2.1
  have eSt := cV_S ok
  have hF1 := ok.2.1.1
  have hF2 := ok.f1
  have hH := ok.2.2.2.1.1
  have hH2 := ok.f3
  have he := ok.ends
  have hg3 : 0 ≤ h.1 n 3 ∧ h.1 n 3 ≤ 2147483647 := ⟨hH, by omega⟩
  have hfr := cV_F (j := j.toNat) ok
  rw [hV] at eJ hfr
  obtain ⟨⟨j0, j1⟩, w0, w7⟩ := hb
  have i0 : I32 0 := ⟨by omega, by omega⟩
  have i1 : I32 1 := ⟨by omega, by omega⟩
  have i3 : I32 3 := ⟨by omega, by omega⟩
  have i7 : I32 7 := ⟨by omega, by omega⟩
  have e : aJoint s j w = (jnt (sV s) j.toNat w, s) := Prod.ext (if_pos ⟨⟨j0, j1⟩, w0, w7⟩) rfl
  have eL : h.1 (n + 2) j.toNat = vLd (sV s) j.toNat := by rw [← hV]; exact cV_L (by omega)
  have jj : j = ((j.toNat : Nat) : Int) := by omega
  refine Ev.aload_n dX7_joint_0 (Eq.refl 1) rfl ?_
  refine Ev.getR dX7_joint_1 (Eq.refl 4) fg_X7_54 rfl rfl hN ?_
  refine Ev.iload_n dX7_joint_4 (Eq.refl 5) rfl ?_
  refine Ev.cv1E dX7_joint_5 (Eq.refl 8) cw_X7_110 (Nat.le_of_ble_eq_true rfl) (by decide) (lyN0 (by assumption)) rfl rfl (Nat.le_of_ble_eq_true rfl) (c_hasJoint (by assumption) (by assumption) (by omega)) ?_
  refine Ev.if_eqB (tgt := 21) dX7_joint_8 (Eq.refl 11) (by decide) (fun c8 => ?_) (fun c8 => ?_)
  · omega
  · refine Ev.iload_n dX7_joint_11 (Eq.refl 12) rfl ?_
    refine Ev.iconst dX7_joint_12 (Eq.refl 13) ?_
    refine Ev.bipush dX7_joint_13 (Eq.refl 15) (by decide) ?_
    refine Ev.cs3E dX7_joint_15 (Eq.refl 18) cw_X7_85 (Nat.le_of_ble_eq_true rfl) (by decide) rfl (Nat.le_of_ble_eq_true rfl) (c_isWithin (by assumption) (by assumption) (by assumption)) ?_
    refine Ev.if_neB (tgt := 23) dX7_joint_18 (Eq.refl 21) (by decide) (fun c18 => ?_) (fun c18 => ?_)
    · refine Ev.iload_n dX7_joint_23 (Eq.refl 24) rfl ?_
      refine Ev.iconst dX7_joint_24 (Eq.refl 25) ?_
      refine Ev.iconst dX7_joint_25 (Eq.refl 26) ?_
      refine Ev.cs3E dX7_joint_26 (Eq.refl 29) cw_X7_85 (Nat.le_of_ble_eq_true rfl) (by decide) rfl (Nat.le_of_ble_eq_true rfl) (c_isWithin (by assumption) (by assumption) (by assumption)) ?_
      refine Ev.if_neB (tgt := 38) dX7_joint_29 (Eq.refl 32) (by decide) (fun c29 => ?_) (fun c29 => ?_)
      · omega
      · refine Ev.iload_n dX7_joint_32 (Eq.refl 33) rfl ?_
        refine Ev.bipush dX7_joint_33 (Eq.refl 35) (by decide) ?_
        refine Ev.icmp_ne (tgt := 42) dX7_joint_35 (Eq.refl 38) (by decide) ⟨by omega, by omega⟩ ⟨by omega, by omega⟩ (fun c35 => ?_) (fun c35 => ?_)
        · refine Ev.iconst dX7_joint_42 (Eq.refl 43) ?_
          refine Ev.is3 dX7_joint_43 (Eq.refl 44) (by decide) rfl ?_
          refine Ev.iload_n dX7_joint_44 (Eq.refl 45) rfl ?_
          refine Ev.if_eq (tgt := 65) dX7_joint_45 (Eq.refl 48) (by decide) ⟨by decide, by decide⟩ (fun _ => ?_) (fun c => absurd (by decide) c)
          refine Ev.iload_n dX7_joint_65 (Eq.refl 66) rfl ?_
          rcases (by omega : (w < 0 ∨ 7 < w) ∨ w = 0 ∨ w = 1 ∨ w = 2 ∨ w = 3 ∨ w = 4 ∨ w = 5 ∨ w = 6 ∨ w = 7) with c66 | c66 | c66 | c66 | c66 | c66 | c66 | c66 | c66
          · omega
          · refine Ev.tabIn (tgt := 112) (off := 46) dX7_joint_66 ⟨by omega, by omega⟩ (by omega) (by omega) (by rw [c66] <;> rfl) (by decide) ?_
            refine Ev.aload_n dX7_joint_112 (Eq.refl 113) rfl ?_
            refine Ev.getR dX7_joint_113 (Eq.refl 116) fg_X7_54 rfl rfl hN ?_
            refine Ev.iload_n dX7_joint_116 (Eq.refl 117) rfl ?_
            refine Ev.cv1E dX7_joint_117 (Eq.refl 120) cw_X7_113 (Nat.le_of_ble_eq_true rfl) (by decide) (lyN0 (by assumption)) rfl rfl (Nat.le_of_ble_eq_true rfl) (c_isFree (by assumption) (by omega) (by omega)) ?_
            refine Ev.if_eqB (tgt := 127) dX7_joint_120 (Eq.refl 123) (by decide) (fun c120 => ?_) (fun c120 => ?_)
            · refine Ev.iconst dX7_joint_127 (Eq.refl 128) ?_
              exact Ev.iret dX7_joint_128 rfl ((by rw [e, c66]; first | exact ⟨_, rfl, by show (1 : Int) = (if vF (sV s) j.toNat = true then 1 else 0); rw [if_pos (hfr.mp c120)], I'⟩ | exact ⟨_, rfl, by show (0 : Int) = (if vF (sV s) j.toNat = true then 1 else 0); rw [if_neg (fun z => c120 (hfr.mpr z))], I'⟩))
            · refine Ev.iconst dX7_joint_123 (Eq.refl 124) ?_
              refine Ev.goto' (pc' := 128) dX7_joint_124 (by decide) ?_
              exact Ev.iret dX7_joint_128 rfl ((by rw [e, c66]; first | exact ⟨_, rfl, by show (1 : Int) = (if vF (sV s) j.toNat = true then 1 else 0); rw [if_pos (hfr.mp c120)], I'⟩ | exact ⟨_, rfl, by show (0 : Int) = (if vF (sV s) j.toNat = true then 1 else 0); rw [if_neg (fun z => c120 (hfr.mpr z))], I'⟩))
          · omega
          · omega
          · omega
          · refine Ev.tabIn (tgt := 129) (off := 63) dX7_joint_66 ⟨by omega, by omega⟩ (by omega) (by omega) (by rw [c66] <;> rfl) (by decide) ?_
            refine Ev.aload_n dX7_joint_129 (Eq.refl 130) rfl ?_
            refine Ev.getR dX7_joint_130 (Eq.refl 133) fg_X7_54 rfl rfl hN ?_
            refine Ev.iload_n dX7_joint_133 (Eq.refl 134) rfl ?_
            refine Ev.cv1I dX7_joint_134 (Eq.refl 137) cw_X7_158 (Nat.le_of_ble_eq_true rfl) (by decide) (lyN0 (by assumption)) rfl rfl (Nat.le_of_ble_eq_true rfl) (c_strandsAt hR (by assumption) (by omega) (by assumption) (by assumption)) (fun x134 g134 hp134 => ?_)
            obtain ⟨rfl, hx⟩ := hp134
            have hx0 := hx.1
            refine Ev.aload_n dX7_joint_137 (Eq.refl 138) rfl ?_
            refine Ev.getR dX7_joint_138 (Eq.refl 141) fg_X7_54 rfl rfl hN ?_
            refine Ev.getI dX7_joint_141 (Eq.refl 144) fg_X7_131 (lyN0 (by assumption)) rfl ?_
            refine Ev.iand dX7_joint_144 (Eq.refl 145) (b_and (by first | exact Int.natCast_nonneg _ | exact shl0 | omega) (by first | exact Int.natCast_nonneg _ | exact shl0 | omega)) ?_
            exact Ev.iret dX7_joint_145 rfl ((by rw [e, c66]; exact ⟨_, rfl, (by show _ = bits _; rw [← hV]; rw [jj] at hx; exact (bits_of (Int.natCast_nonneg _) (arndB ok hx)).symm), I'⟩))
          · refine Ev.tabIn (tgt := 146) (off := 80) dX7_joint_66 ⟨by omega, by omega⟩ (by omega) (by omega) (by rw [c66] <;> rfl) (by decide) ?_
            refine Ev.aload_n dX7_joint_146 (Eq.refl 147) rfl ?_
            refine Ev.getR dX7_joint_147 (Eq.refl 150) fg_X7_54 rfl rfl hN ?_
            refine Ev.getR dX7_joint_150 (Eq.refl 153) fg_X7_116 (lyN0 (by assumption)) rfl (rN7 hR (by assumption)) ?_
            refine Ev.iload_n dX7_joint_153 (Eq.refl 154) rfl ?_
            refine Ev.iaload dX7_joint_154 (Eq.refl 155) (lyN2 (by assumption)) rfl (by omega) (by decide) (by first | with_reducible exact Int.toNat_natCast _ | exact Eq.refl _) ?_
            rw [eL]
            refine Ev.bipush dX7_joint_155 (Eq.refl 157) (by decide) ?_
            refine Ev.iadd dX7_joint_157 (Eq.refl 158) ?_
            exact Ev.iret dX7_joint_158 rfl ((by rw [e, c66]; exact ⟨_, rfl, rfl, I'⟩))
          · refine Ev.tabIn (tgt := 159) (off := 93) dX7_joint_66 ⟨by omega, by omega⟩ (by omega) (by omega) (by rw [c66] <;> rfl) (by decide) ?_
            refine Ev.aload_n dX7_joint_159 (Eq.refl 160) rfl ?_
            refine Ev.getR dX7_joint_160 (Eq.refl 163) fg_X7_54 rfl rfl hN ?_
            refine Ev.aload_n dX7_joint_163 (Eq.refl 164) rfl ?_
            refine Ev.getR dX7_joint_164 (Eq.refl 167) fg_X7_54 rfl rfl hN ?_
            refine Ev.getI dX7_joint_167 (Eq.refl 170) fg_X7_131 (lyN0 (by assumption)) rfl ?_
            refine Ev.cv1I dX7_joint_170 (Eq.refl 173) cw_X7_161 (Nat.le_of_ble_eq_true rfl) (by decide) (lyN0 (by assumption)) rfl rfl (Nat.le_of_ble_eq_true rfl) (c_hungJoints hR (by assumption) (by assumption) (by assumption)) (fun x170 g170 hp170 => ?_)
            obtain ⟨rfl, hx⟩ := hp170
            have hx0 := hx.1
            have hx1 := hx.2.1
            refine Ev.iload_n dX7_joint_173 (Eq.refl 174) rfl ?_
            refine Ev.ishr dX7_joint_174 (Eq.refl 175) (b_shr (by omega) (by omega) (by omega) (by omega)) ?_
            refine Ev.iconst dX7_joint_175 (Eq.refl 176) ?_
            refine Ev.iand dX7_joint_176 (Eq.refl 177) (b_and (by first | exact Int.natCast_nonneg _ | exact shl0 | omega) (by first | exact Int.natCast_nonneg _ | exact shl0 | omega)) ?_
            rw [bitE]
            exact Ev.iret dX7_joint_177 rfl ((by rw [e, c66]; exact ⟨_, rfl, (by show _ = bi (hg (sV s) (hgV (sV s)) j.toNat); rw [← hV]; exact bi_c ((hx.2.2 j.toNat).trans ⟨fun z => (hg_congr (fun i _ => cV_H ok) _).mp z.2, fun z => ⟨by rw [hV]; omega, (hg_congr (fun i _ => cV_H ok) _).mpr z⟩⟩)), I'⟩))
          · omega
        · omega
    · omega
theorem p_joint2 {h : Hp} {s : St} {j w : Int} (I : CInv h s) (hj : I32 j) (hw : I32 w) (hb : isJ (sV s) j ∧ 0 ≤ w ∧ w ≤ 7) (hw2 : ¬ (w = 0 ∨ w = 4 ∨ w = 5 ∨ w = 6)) : Ev mX7_joint 4 0 (entL [.ref 0, iv j, iv w] 4) [] h (PA (aJoint s j w)) := by
  show Ev mX7_joint 4 0 [some (.ref 0), some (iv j), some (iv w), none] [] h _
  have I' := I
  obtain ⟨hR, ⟨n, d, hnd, hN, hD, ok, hV⟩, hT, hP⟩ := I
  have hn : isNet n := by omega
  have h7 : isShp 7 := Or.inl rfl
  have bJ := ok.1
  have eJ := cV_J ok
  rw [hV] at eJ
  obtain ⟨⟨j0, j1⟩, w0, w7⟩ := hb
  have i0 : I32 0 := ⟨by omega, by omega⟩
  have i1 : I32 1 := ⟨by omega, by omega⟩
  have i3 : I32 3 := ⟨by omega, by omega⟩
  have i7 : I32 7 := ⟨by omega, by omega⟩
  have ej : jnt (sV s) j.toNat w = cif (aH (sV s) (hgV (sV s))) (if w = 7 then bi (vF (sV s) j.toNat = true → ∀ a, a < 3 → btw (sV s) j.toNat a) else hU (sV s) j.toNat (w - 1).toNat + 1000000) (-2) := (if_neg (by omega)).trans ((if_neg (by omega)).trans ((if_neg (by omega)).trans (if_neg (by omega))))
  have e : aJoint s j w = (jnt (sV s) j.toNat w, s) := Prod.ext (if_pos ⟨⟨j0, j1⟩, w0, w7⟩) rfl
  by_cases ha : aH (cV h n) (hgV (cV h n))
  · rw [ej, cif_t (by rw [← hV]; exact ha)] at e
    have jj : j = ((j.toNat : Nat) : Int) := by omega
    refine Ev.aload_n dX7_joint_0 (Eq.refl 1) rfl ?_
    refine Ev.getR dX7_joint_1 (Eq.refl 4) fg_X7_54 rfl rfl hN ?_
    refine Ev.iload_n dX7_joint_4 (Eq.refl 5) rfl ?_
    refine Ev.cv1E dX7_joint_5 (Eq.refl 8) cw_X7_110 (Nat.le_of_ble_eq_true rfl) (by decide) (lyN0 (by assumption)) rfl rfl (Nat.le_of_ble_eq_true rfl) (c_hasJoint (by assumption) (by assumption) (by omega)) ?_
    refine Ev.if_eqB (tgt := 21) dX7_joint_8 (Eq.refl 11) (by decide) (fun c8 => ?_) (fun c8 => ?_)
    · omega
    · refine Ev.iload_n dX7_joint_11 (Eq.refl 12) rfl ?_
      refine Ev.iconst dX7_joint_12 (Eq.refl 13) ?_
      refine Ev.bipush dX7_joint_13 (Eq.refl 15) (by decide) ?_
      refine Ev.cs3E dX7_joint_15 (Eq.refl 18) cw_X7_85 (Nat.le_of_ble_eq_true rfl) (by decide) rfl (Nat.le_of_ble_eq_true rfl) (c_isWithin (by assumption) (by assumption) (by assumption)) ?_
      refine Ev.if_neB (tgt := 23) dX7_joint_18 (Eq.refl 21) (by decide) (fun c18 => ?_) (fun c18 => ?_)
      · refine Ev.iload_n dX7_joint_23 (Eq.refl 24) rfl ?_
        refine Ev.iconst dX7_joint_24 (Eq.refl 25) ?_
        refine Ev.iconst dX7_joint_25 (Eq.refl 26) ?_
        refine Ev.cs3E dX7_joint_26 (Eq.refl 29) cw_X7_85 (Nat.le_of_ble_eq_true rfl) (by decide) rfl (Nat.le_of_ble_eq_true rfl) (c_isWithin (by assumption) (by assumption) (by assumption)) ?_
        refine Ev.if_neB (tgt := 38) dX7_joint_29 (Eq.refl 32) (by decide) (fun c29 => ?_) (fun c29 => ?_)
        · refine Ev.iconst dX7_joint_38 (Eq.refl 39) ?_
          refine Ev.goto' (pc' := 43) dX7_joint_39 (by decide) ?_
          refine Ev.is3 dX7_joint_43 (Eq.refl 44) (by decide) rfl ?_
          refine Ev.iload_n dX7_joint_44 (Eq.refl 45) rfl ?_
          refine Ev.if_eq (tgt := 65) dX7_joint_45 (Eq.refl 48) (by decide) ⟨by decide, by decide⟩ (fun c => absurd c (by decide)) (fun _ => ?_)
          refine Ev.aload_n dX7_joint_48 (Eq.refl 49) rfl ?_
          refine Ev.getR dX7_joint_49 (Eq.refl 52) fg_X7_33 rfl rfl (rX7_3 hR) ?_
          refine Ev.aload_n dX7_joint_52 (Eq.refl 53) rfl ?_
          refine Ev.getR dX7_joint_53 (Eq.refl 56) fg_X7_54 rfl rfl hN ?_
          refine Ev.cv1I dX7_joint_56 (Eq.refl 59) cw_X7_144 (Nat.le_of_ble_eq_true rfl) (by decide) (lyS0 (by assumption)) rfl rfl (Nat.le_of_ble_eq_true rfl) (c_find1 hR hn h7 ok ha) (fun x56 g56 hp56 => ?_)
          obtain ⟨rfl, hF2, s2, ok2, hR2, so⟩ := hp56
          have hR := hR2
          have hN : g56.2.2 0 6 = n := by rw [hF2.2.2]; exact hN
          have ev2 := s2.V.trans hV
          have bk := I'.q hF2 inS7
          have jl : j.toNat < vJ (cV g56 n) := by rw [ev2]; omega
          have q1 : (j * 3 + w - 1).toNat = j.toNat * 3 + (w - 1).toNat := by omega
          refine Ev.if_ne (tgt := 65) dX7_joint_59 (Eq.refl 62) (by decide) ⟨by omega, by omega⟩ (fun c59 => ?_) (fun c59 => ?_)
          · refine Ev.iload_n dX7_joint_65 (Eq.refl 66) rfl ?_
            rcases (by omega : (w < 0 ∨ 7 < w) ∨ w = 0 ∨ w = 1 ∨ w = 2 ∨ w = 3 ∨ w = 4 ∨ w = 5 ∨ w = 6 ∨ w = 7) with c66 | c66 | c66 | c66 | c66 | c66 | c66 | c66 | c66
            · omega
            · omega
            · refine Ev.tabIn (tgt := 199) (off := 133) dX7_joint_66 ⟨by omega, by omega⟩ (by omega) (by omega) (by rw [c66] <;> rfl) (by decide) ?_
              refine Ev.aload_n dX7_joint_199 (Eq.refl 200) rfl ?_
              refine Ev.getR dX7_joint_200 (Eq.refl 203) fg_X7_33 rfl rfl (rX7_3 hR) ?_
              refine Ev.getR dX7_joint_203 (Eq.refl 206) fg_X7_168 (lyS0 (by assumption)) rfl (rS2 hR (by assumption)) ?_
              refine Ev.iload_n dX7_joint_206 (Eq.refl 207) rfl ?_
              refine Ev.iconst dX7_joint_207 (Eq.refl 208) ?_
              refine Ev.imul dX7_joint_208 (Eq.refl 209) ?_
              refine Ev.iload_n dX7_joint_209 (Eq.refl 210) rfl ?_
              refine Ev.iadd dX7_joint_210 (Eq.refl 211) ?_
              refine Ev.iconst dX7_joint_211 (Eq.refl 212) ?_
              refine Ev.isub dX7_joint_212 (Eq.refl 213) ?_
              refine Ev.iaload dX7_joint_213 (Eq.refl 214) (lyS3 (by assumption)) rfl (by omega) (by decide) q1 ?_
              rw [so.2.2.1 j.toNat (w - 1).toNat jl (by omega), ev2]
              refine Ev.ldc dX7_joint_214 (Eq.refl 216) kc_X7_171 ?_
              refine Ev.iadd dX7_joint_216 (Eq.refl 217) ?_
              exact Ev.iret dX7_joint_217 rfl ((by rw [e, if_neg (by omega : ¬ w = 7)]; exact ⟨_, rfl, rfl, bk⟩))
            · refine Ev.tabIn (tgt := 199) (off := 133) dX7_joint_66 ⟨by omega, by omega⟩ (by omega) (by omega) (by rw [c66] <;> rfl) (by decide) ?_
              refine Ev.aload_n dX7_joint_199 (Eq.refl 200) rfl ?_
              refine Ev.getR dX7_joint_200 (Eq.refl 203) fg_X7_33 rfl rfl (rX7_3 hR) ?_
              refine Ev.getR dX7_joint_203 (Eq.refl 206) fg_X7_168 (lyS0 (by assumption)) rfl (rS2 hR (by assumption)) ?_
              refine Ev.iload_n dX7_joint_206 (Eq.refl 207) rfl ?_
              refine Ev.iconst dX7_joint_207 (Eq.refl 208) ?_
              refine Ev.imul dX7_joint_208 (Eq.refl 209) ?_
              refine Ev.iload_n dX7_joint_209 (Eq.refl 210) rfl ?_
              refine Ev.iadd dX7_joint_210 (Eq.refl 211) ?_
              refine Ev.iconst dX7_joint_211 (Eq.refl 212) ?_
              refine Ev.isub dX7_joint_212 (Eq.refl 213) ?_
              refine Ev.iaload dX7_joint_213 (Eq.refl 214) (lyS3 (by assumption)) rfl (by omega) (by decide) q1 ?_
              rw [so.2.2.1 j.toNat (w - 1).toNat jl (by omega), ev2]
              refine Ev.ldc dX7_joint_214 (Eq.refl 216) kc_X7_171 ?_
              refine Ev.iadd dX7_joint_216 (Eq.refl 217) ?_
              exact Ev.iret dX7_joint_217 rfl ((by rw [e, if_neg (by omega : ¬ w = 7)]; exact ⟨_, rfl, rfl, bk⟩))
            · refine Ev.tabIn (tgt := 199) (off := 133) dX7_joint_66 ⟨by omega, by omega⟩ (by omega) (by omega) (by rw [c66] <;> rfl) (by decide) ?_
              refine Ev.aload_n dX7_joint_199 (Eq.refl 200) rfl ?_
              refine Ev.getR dX7_joint_200 (Eq.refl 203) fg_X7_33 rfl rfl (rX7_3 hR) ?_
              refine Ev.getR dX7_joint_203 (Eq.refl 206) fg_X7_168 (lyS0 (by assumption)) rfl (rS2 hR (by assumption)) ?_
              refine Ev.iload_n dX7_joint_206 (Eq.refl 207) rfl ?_
              refine Ev.iconst dX7_joint_207 (Eq.refl 208) ?_
              refine Ev.imul dX7_joint_208 (Eq.refl 209) ?_
              refine Ev.iload_n dX7_joint_209 (Eq.refl 210) rfl ?_
              refine Ev.iadd dX7_joint_210 (Eq.refl 211) ?_
              refine Ev.iconst dX7_joint_211 (Eq.refl 212) ?_
              refine Ev.isub dX7_joint_212 (Eq.refl 213) ?_
              refine Ev.iaload dX7_joint_213 (Eq.refl 214) (lyS3 (by assumption)) rfl (by omega) (by decide) q1 ?_
              rw [so.2.2.1 j.toNat (w - 1).toNat jl (by omega), ev2]
              refine Ev.ldc dX7_joint_214 (Eq.refl 216) kc_X7_171 ?_
              refine Ev.iadd dX7_joint_216 (Eq.refl 217) ?_
              exact Ev.iret dX7_joint_217 rfl ((by rw [e, if_neg (by omega : ¬ w = 7)]; exact ⟨_, rfl, rfl, bk⟩))
            · omega
            · omega
            · omega
            · refine Ev.tabIn (tgt := 178) (off := 112) dX7_joint_66 ⟨by omega, by omega⟩ (by omega) (by omega) (by rw [c66] <;> rfl) (by decide) ?_
              refine Ev.aload_n dX7_joint_178 (Eq.refl 179) rfl ?_
              refine Ev.getR dX7_joint_179 (Eq.refl 182) fg_X7_33 rfl rfl (rX7_3 hR) ?_
              refine Ev.aload_n dX7_joint_182 (Eq.refl 183) rfl ?_
              refine Ev.getR dX7_joint_183 (Eq.refl 186) fg_X7_54 rfl rfl hN ?_
              refine Ev.iload_n dX7_joint_186 (Eq.refl 187) rfl ?_
              refine Ev.cv2E dX7_joint_187 (Eq.refl 190) cw_X7_164 (Nat.le_of_ble_eq_true rfl) (by decide) (lyS0 (by assumption)) rfl rfl (Nat.le_of_ble_eq_true rfl) ((show Ev mX4_isWithinOthers 3 0 (entL [.ref 7, .ref n, iv j] 4) [] g56 (PE (bi (vF (sV s) j.toNat = true → ∀ a, a < 3 → btw (sV s) j.toNat a)) g56) by rw [← ev2]; have := c_isWithinO hR hn h7 ok2 so jl; rw [← jj] at this; exact this)) ?_
              refine Ev.if_eqB (tgt := 197) dX7_joint_190 (Eq.refl 193) (by decide) (fun c190 => ?_) (fun c190 => ?_)
              · refine Ev.iconst dX7_joint_197 (Eq.refl 198) ?_
                exact Ev.iret dX7_joint_198 rfl ((by rw [e, if_pos (by omega : w = 7)]; first | exact ⟨_, rfl, (bi_t c190).symm, bk⟩ | exact ⟨_, rfl, (bi_f c190).symm, bk⟩))
              · refine Ev.iconst dX7_joint_193 (Eq.refl 194) ?_
                refine Ev.goto' (pc' := 198) dX7_joint_194 (by decide) ?_
                exact Ev.iret dX7_joint_198 rfl ((by rw [e, if_pos (by omega : w = 7)]; first | exact ⟨_, rfl, (bi_t c190).symm, bk⟩ | exact ⟨_, rfl, (bi_f c190).symm, bk⟩))
          · omega
        · refine Ev.iload_n dX7_joint_32 (Eq.refl 33) rfl ?_
          refine Ev.bipush dX7_joint_33 (Eq.refl 35) (by decide) ?_
          refine Ev.icmp_ne (tgt := 42) dX7_joint_35 (Eq.refl 38) (by decide) ⟨by omega, by omega⟩ ⟨by omega, by omega⟩ (fun c35 => ?_) (fun c35 => ?_)
          · omega
          · refine Ev.iconst dX7_joint_38 (Eq.refl 39) ?_
            refine Ev.goto' (pc' := 43) dX7_joint_39 (by decide) ?_
            refine Ev.is3 dX7_joint_43 (Eq.refl 44) (by decide) rfl ?_
            refine Ev.iload_n dX7_joint_44 (Eq.refl 45) rfl ?_
            refine Ev.if_eq (tgt := 65) dX7_joint_45 (Eq.refl 48) (by decide) ⟨by decide, by decide⟩ (fun c => absurd c (by decide)) (fun _ => ?_)
            refine Ev.aload_n dX7_joint_48 (Eq.refl 49) rfl ?_
            refine Ev.getR dX7_joint_49 (Eq.refl 52) fg_X7_33 rfl rfl (rX7_3 hR) ?_
            refine Ev.aload_n dX7_joint_52 (Eq.refl 53) rfl ?_
            refine Ev.getR dX7_joint_53 (Eq.refl 56) fg_X7_54 rfl rfl hN ?_
            refine Ev.cv1I dX7_joint_56 (Eq.refl 59) cw_X7_144 (Nat.le_of_ble_eq_true rfl) (by decide) (lyS0 (by assumption)) rfl rfl (Nat.le_of_ble_eq_true rfl) (c_find1 hR hn h7 ok ha) (fun x56 g56 hp56 => ?_)
            obtain ⟨rfl, hF2, s2, ok2, hR2, so⟩ := hp56
            have hR := hR2
            have hN : g56.2.2 0 6 = n := by rw [hF2.2.2]; exact hN
            have ev2 := s2.V.trans hV
            have bk := I'.q hF2 inS7
            have jl : j.toNat < vJ (cV g56 n) := by rw [ev2]; omega
            have q1 : (j * 3 + w - 1).toNat = j.toNat * 3 + (w - 1).toNat := by omega
            refine Ev.if_ne (tgt := 65) dX7_joint_59 (Eq.refl 62) (by decide) ⟨by omega, by omega⟩ (fun c59 => ?_) (fun c59 => ?_)
            · refine Ev.iload_n dX7_joint_65 (Eq.refl 66) rfl ?_
              rcases (by omega : (w < 0 ∨ 7 < w) ∨ w = 0 ∨ w = 1 ∨ w = 2 ∨ w = 3 ∨ w = 4 ∨ w = 5 ∨ w = 6 ∨ w = 7) with c66 | c66 | c66 | c66 | c66 | c66 | c66 | c66 | c66
              · omega
              · omega
              · refine Ev.tabIn (tgt := 199) (off := 133) dX7_joint_66 ⟨by omega, by omega⟩ (by omega) (by omega) (by rw [c66] <;> rfl) (by decide) ?_
                refine Ev.aload_n dX7_joint_199 (Eq.refl 200) rfl ?_
                refine Ev.getR dX7_joint_200 (Eq.refl 203) fg_X7_33 rfl rfl (rX7_3 hR) ?_
                refine Ev.getR dX7_joint_203 (Eq.refl 206) fg_X7_168 (lyS0 (by assumption)) rfl (rS2 hR (by assumption)) ?_
                refine Ev.iload_n dX7_joint_206 (Eq.refl 207) rfl ?_
                refine Ev.iconst dX7_joint_207 (Eq.refl 208) ?_
                refine Ev.imul dX7_joint_208 (Eq.refl 209) ?_
                refine Ev.iload_n dX7_joint_209 (Eq.refl 210) rfl ?_
                refine Ev.iadd dX7_joint_210 (Eq.refl 211) ?_
                refine Ev.iconst dX7_joint_211 (Eq.refl 212) ?_
                refine Ev.isub dX7_joint_212 (Eq.refl 213) ?_
                refine Ev.iaload dX7_joint_213 (Eq.refl 214) (lyS3 (by assumption)) rfl (by omega) (by decide) q1 ?_
                rw [so.2.2.1 j.toNat (w - 1).toNat jl (by omega), ev2]
                refine Ev.ldc dX7_joint_214 (Eq.refl 216) kc_X7_171 ?_
                refine Ev.iadd dX7_joint_216 (Eq.refl 217) ?_
                exact Ev.iret dX7_joint_217 rfl ((by rw [e, if_neg (by omega : ¬ w = 7)]; exact ⟨_, rfl, rfl, bk⟩))
              · refine Ev.tabIn (tgt := 199) (off := 133) dX7_joint_66 ⟨by omega, by omega⟩ (by omega) (by omega) (by rw [c66] <;> rfl) (by decide) ?_
                refine Ev.aload_n dX7_joint_199 (Eq.refl 200) rfl ?_
                refine Ev.getR dX7_joint_200 (Eq.refl 203) fg_X7_33 rfl rfl (rX7_3 hR) ?_
                refine Ev.getR dX7_joint_203 (Eq.refl 206) fg_X7_168 (lyS0 (by assumption)) rfl (rS2 hR (by assumption)) ?_
                refine Ev.iload_n dX7_joint_206 (Eq.refl 207) rfl ?_
                refine Ev.iconst dX7_joint_207 (Eq.refl 208) ?_
                refine Ev.imul dX7_joint_208 (Eq.refl 209) ?_
                refine Ev.iload_n dX7_joint_209 (Eq.refl 210) rfl ?_
                refine Ev.iadd dX7_joint_210 (Eq.refl 211) ?_
                refine Ev.iconst dX7_joint_211 (Eq.refl 212) ?_
                refine Ev.isub dX7_joint_212 (Eq.refl 213) ?_
                refine Ev.iaload dX7_joint_213 (Eq.refl 214) (lyS3 (by assumption)) rfl (by omega) (by decide) q1 ?_
                rw [so.2.2.1 j.toNat (w - 1).toNat jl (by omega), ev2]
                refine Ev.ldc dX7_joint_214 (Eq.refl 216) kc_X7_171 ?_
                refine Ev.iadd dX7_joint_216 (Eq.refl 217) ?_
                exact Ev.iret dX7_joint_217 rfl ((by rw [e, if_neg (by omega : ¬ w = 7)]; exact ⟨_, rfl, rfl, bk⟩))
              · refine Ev.tabIn (tgt := 199) (off := 133) dX7_joint_66 ⟨by omega, by omega⟩ (by omega) (by omega) (by rw [c66] <;> rfl) (by decide) ?_
                refine Ev.aload_n dX7_joint_199 (Eq.refl 200) rfl ?_
                refine Ev.getR dX7_joint_200 (Eq.refl 203) fg_X7_33 rfl rfl (rX7_3 hR) ?_
                refine Ev.getR dX7_joint_203 (Eq.refl 206) fg_X7_168 (lyS0 (by assumption)) rfl (rS2 hR (by assumption)) ?_
                refine Ev.iload_n dX7_joint_206 (Eq.refl 207) rfl ?_
                refine Ev.iconst dX7_joint_207 (Eq.refl 208) ?_
                refine Ev.imul dX7_joint_208 (Eq.refl 209) ?_
                refine Ev.iload_n dX7_joint_209 (Eq.refl 210) rfl ?_
                refine Ev.iadd dX7_joint_210 (Eq.refl 211) ?_
                refine Ev.iconst dX7_joint_211 (Eq.refl 212) ?_
                refine Ev.isub dX7_joint_212 (Eq.refl 213) ?_
                refine Ev.iaload dX7_joint_213 (Eq.refl 214) (lyS3 (by assumption)) rfl (by omega) (by decide) q1 ?_
                rw [so.2.2.1 j.toNat (w - 1).toNat jl (by omega), ev2]
                refine Ev.ldc dX7_joint_214 (Eq.refl 216) kc_X7_171 ?_
                refine Ev.iadd dX7_joint_216 (Eq.refl 217) ?_
                exact Ev.iret dX7_joint_217 rfl ((by rw [e, if_neg (by omega : ¬ w = 7)]; exact ⟨_, rfl, rfl, bk⟩))
              · omega
              · omega
              · omega
              · refine Ev.tabIn (tgt := 178) (off := 112) dX7_joint_66 ⟨by omega, by omega⟩ (by omega) (by omega) (by rw [c66] <;> rfl) (by decide) ?_
                refine Ev.aload_n dX7_joint_178 (Eq.refl 179) rfl ?_
                refine Ev.getR dX7_joint_179 (Eq.refl 182) fg_X7_33 rfl rfl (rX7_3 hR) ?_
                refine Ev.aload_n dX7_joint_182 (Eq.refl 183) rfl ?_
                refine Ev.getR dX7_joint_183 (Eq.refl 186) fg_X7_54 rfl rfl hN ?_
                refine Ev.iload_n dX7_joint_186 (Eq.refl 187) rfl ?_
                refine Ev.cv2E dX7_joint_187 (Eq.refl 190) cw_X7_164 (Nat.le_of_ble_eq_true rfl) (by decide) (lyS0 (by assumption)) rfl rfl (Nat.le_of_ble_eq_true rfl) ((show Ev mX4_isWithinOthers 3 0 (entL [.ref 7, .ref n, iv j] 4) [] g56 (PE (bi (vF (sV s) j.toNat = true → ∀ a, a < 3 → btw (sV s) j.toNat a)) g56) by rw [← ev2]; have := c_isWithinO hR hn h7 ok2 so jl; rw [← jj] at this; exact this)) ?_
                refine Ev.if_eqB (tgt := 197) dX7_joint_190 (Eq.refl 193) (by decide) (fun c190 => ?_) (fun c190 => ?_)
                · refine Ev.iconst dX7_joint_197 (Eq.refl 198) ?_
                  exact Ev.iret dX7_joint_198 rfl ((by rw [e, if_pos (by omega : w = 7)]; first | exact ⟨_, rfl, (bi_t c190).symm, bk⟩ | exact ⟨_, rfl, (bi_f c190).symm, bk⟩))
                · refine Ev.iconst dX7_joint_193 (Eq.refl 194) ?_
                  refine Ev.goto' (pc' := 198) dX7_joint_194 (by decide) ?_
                  exact Ev.iret dX7_joint_198 rfl ((by rw [e, if_pos (by omega : w = 7)]; first | exact ⟨_, rfl, (bi_t c190).symm, bk⟩ | exact ⟨_, rfl, (bi_f c190).symm, bk⟩))
            · omega
      · omega
  · rw [ej, cif_f (by rw [← hV]; exact ha)] at e
    refine Ev.aload_n dX7_joint_0 (Eq.refl 1) rfl ?_
    refine Ev.getR dX7_joint_1 (Eq.refl 4) fg_X7_54 rfl rfl hN ?_
    refine Ev.iload_n dX7_joint_4 (Eq.refl 5) rfl ?_
    refine Ev.cv1E dX7_joint_5 (Eq.refl 8) cw_X7_110 (Nat.le_of_ble_eq_true rfl) (by decide) (lyN0 (by assumption)) rfl rfl (Nat.le_of_ble_eq_true rfl) (c_hasJoint (by assumption) (by assumption) (by omega)) ?_
    refine Ev.if_eqB (tgt := 21) dX7_joint_8 (Eq.refl 11) (by decide) (fun c8 => ?_) (fun c8 => ?_)
    · omega
    · refine Ev.iload_n dX7_joint_11 (Eq.refl 12) rfl ?_
      refine Ev.iconst dX7_joint_12 (Eq.refl 13) ?_
      refine Ev.bipush dX7_joint_13 (Eq.refl 15) (by decide) ?_
      refine Ev.cs3E dX7_joint_15 (Eq.refl 18) cw_X7_85 (Nat.le_of_ble_eq_true rfl) (by decide) rfl (Nat.le_of_ble_eq_true rfl) (c_isWithin (by assumption) (by assumption) (by assumption)) ?_
      refine Ev.if_neB (tgt := 23) dX7_joint_18 (Eq.refl 21) (by decide) (fun c18 => ?_) (fun c18 => ?_)
      · refine Ev.iload_n dX7_joint_23 (Eq.refl 24) rfl ?_
        refine Ev.iconst dX7_joint_24 (Eq.refl 25) ?_
        refine Ev.iconst dX7_joint_25 (Eq.refl 26) ?_
        refine Ev.cs3E dX7_joint_26 (Eq.refl 29) cw_X7_85 (Nat.le_of_ble_eq_true rfl) (by decide) rfl (Nat.le_of_ble_eq_true rfl) (c_isWithin (by assumption) (by assumption) (by assumption)) ?_
        refine Ev.if_neB (tgt := 38) dX7_joint_29 (Eq.refl 32) (by decide) (fun c29 => ?_) (fun c29 => ?_)
        · refine Ev.iconst dX7_joint_38 (Eq.refl 39) ?_
          refine Ev.goto' (pc' := 43) dX7_joint_39 (by decide) ?_
          refine Ev.is3 dX7_joint_43 (Eq.refl 44) (by decide) rfl ?_
          refine Ev.iload_n dX7_joint_44 (Eq.refl 45) rfl ?_
          refine Ev.if_eq (tgt := 65) dX7_joint_45 (Eq.refl 48) (by decide) ⟨by decide, by decide⟩ (fun c => absurd c (by decide)) (fun _ => ?_)
          refine Ev.aload_n dX7_joint_48 (Eq.refl 49) rfl ?_
          refine Ev.getR dX7_joint_49 (Eq.refl 52) fg_X7_33 rfl rfl (rX7_3 hR) ?_
          refine Ev.aload_n dX7_joint_52 (Eq.refl 53) rfl ?_
          refine Ev.getR dX7_joint_53 (Eq.refl 56) fg_X7_54 rfl rfl hN ?_
          refine Ev.cv1I dX7_joint_56 (Eq.refl 59) cw_X7_144 (Nat.le_of_ble_eq_true rfl) (by decide) (lyS0 (by assumption)) rfl rfl (Nat.le_of_ble_eq_true rfl) (c_find0 hR hn h7 ok ha) (fun x56 g56 hp56 => ?_)
          obtain ⟨rfl, rfl⟩ := hp56
          refine Ev.if_ne (tgt := 65) dX7_joint_59 (Eq.refl 62) (by decide) ⟨by omega, by omega⟩ (fun c59 => ?_) (fun c59 => ?_)
          · omega
          · refine Ev.bipush dX7_joint_62 (Eq.refl 64) (by decide) ?_
            exact Ev.iret dX7_joint_64 rfl ((by rw [e]; exact ⟨_, rfl, rfl, I'⟩))
        · refine Ev.iload_n dX7_joint_32 (Eq.refl 33) rfl ?_
          refine Ev.bipush dX7_joint_33 (Eq.refl 35) (by decide) ?_
          refine Ev.icmp_ne (tgt := 42) dX7_joint_35 (Eq.refl 38) (by decide) ⟨by omega, by omega⟩ ⟨by omega, by omega⟩ (fun c35 => ?_) (fun c35 => ?_)
          · omega
          · refine Ev.iconst dX7_joint_38 (Eq.refl 39) ?_
            refine Ev.goto' (pc' := 43) dX7_joint_39 (by decide) ?_
            refine Ev.is3 dX7_joint_43 (Eq.refl 44) (by decide) rfl ?_
            refine Ev.iload_n dX7_joint_44 (Eq.refl 45) rfl ?_
            refine Ev.if_eq (tgt := 65) dX7_joint_45 (Eq.refl 48) (by decide) ⟨by decide, by decide⟩ (fun c => absurd c (by decide)) (fun _ => ?_)
            refine Ev.aload_n dX7_joint_48 (Eq.refl 49) rfl ?_
            refine Ev.getR dX7_joint_49 (Eq.refl 52) fg_X7_33 rfl rfl (rX7_3 hR) ?_
            refine Ev.aload_n dX7_joint_52 (Eq.refl 53) rfl ?_
            refine Ev.getR dX7_joint_53 (Eq.refl 56) fg_X7_54 rfl rfl hN ?_
            refine Ev.cv1I dX7_joint_56 (Eq.refl 59) cw_X7_144 (Nat.le_of_ble_eq_true rfl) (by decide) (lyS0 (by assumption)) rfl rfl (Nat.le_of_ble_eq_true rfl) (c_find0 hR hn h7 ok ha) (fun x56 g56 hp56 => ?_)
            obtain ⟨rfl, rfl⟩ := hp56
            refine Ev.if_ne (tgt := 65) dX7_joint_59 (Eq.refl 62) (by decide) ⟨by omega, by omega⟩ (fun c59 => ?_) (fun c59 => ?_)
            · omega
            · refine Ev.bipush dX7_joint_62 (Eq.refl 64) (by decide) ?_
              exact Ev.iret dX7_joint_64 rfl ((by rw [e]; exact ⟨_, rfl, rfl, I'⟩))
      · omega
theorem p_joint {h : Hp} {s : St} {j w : Int} (I : CInv h s) (hj : I32 j) (hw : I32 w) : Ev mX7_joint 4 0 (entL [.ref 0, iv j, iv w] 4) [] h (PA (aJoint s j w)) := by
  by_cases hb : isJ (sV s) j ∧ 0 ≤ w ∧ w ≤ 7
  · by_cases hw2 : w = 0 ∨ w = 4 ∨ w = 5 ∨ w = 6
    · exact p_joint1 I hj hw hb hw2
    · exact p_joint2 I hj hw hb hw2
  · exact p_joint0 I hj hw hb
theorem p_bears {h : Hp} {s : St} {j a : Int} (I : CInv h s) (hj : I32 j) (hA : I32 a) : Ev mX7_bears 4 0 (entL [.ref 0, iv j, iv a] 3) [] h (PA (aBears s j a)) := by
  show Ev mX7_bears 4 0 [some (.ref 0), some (iv j), some (iv a)] [] h _
  have I' := I
  obtain ⟨hR, ⟨n, d, hnd, hN, hD, ok, hV⟩, hT, hP⟩ := I
  have hn : isNet n := by omega
  have h7 : isShp 7 := Or.inl rfl
  have bJ := ok.1
  have eJ := cV_J ok
  rw [hV] at eJ
  by_cases ha : aH (cV h n) (hgV (cV h n))
  · have e2 : ∀ c : (isJ (sV s) j ∧ vF (sV s) j.toNat = false) ∧ 0 ≤ a ∧ a ≤ 2, aBears s j a = (sm (brn (sV s) j.toNat a.toNat) (vS (sV s)) + 1000000, s) := fun c => Prod.ext ((if_pos c).trans (cif_t (by rw [← hV]; exact ha))) rfl
    refine Ev.aload_n dX7_bears_0 (Eq.refl 1) rfl ?_
    refine Ev.iload_n dX7_bears_1 (Eq.refl 2) rfl ?_
    refine Ev.cv1E dX7_bears_2 (Eq.refl 5) cw_X7_119 (Nat.le_of_ble_eq_true rfl) (by decide) rfl rfl rfl (Nat.le_of_ble_eq_true rfl) (c_isFixed hN hn ok hj) ?_
    rw [hV]
    refine Ev.if_eqB (tgt := 15) dX7_bears_5 (Eq.refl 8) (by decide) (fun c5 => ?_) (fun c5 => ?_)
    · have e : aBears s j a = (-1, s) := Prod.ext (if_neg (fun z => c5 z.1)) rfl
      refine Ev.iconst dX7_bears_15 (Eq.refl 16) ?_
      exact Ev.iret dX7_bears_16 rfl ((by rw [e]; exact ⟨_, rfl, rfl, I'⟩))
    · refine Ev.iload_n dX7_bears_8 (Eq.refl 9) rfl ?_
      refine Ev.cs1E dX7_bears_9 (Eq.refl 12) cw_X7_122 (Nat.le_of_ble_eq_true rfl) (by decide) rfl (Nat.le_of_ble_eq_true rfl) (c_isAxis (by assumption)) ?_
      refine Ev.if_neB (tgt := 17) dX7_bears_12 (Eq.refl 15) (by decide) (fun c12 => ?_) (fun c12 => ?_)
      · have e := e2 ⟨c5, c12⟩
        have j0 : 0 ≤ j := c5.1.1
        have j1 : j < (vJ (sV s) : Int) := c5.1.2
        have jj : j = ((j.toNat : Nat) : Int) := by omega
        have aa : a = ((a.toNat : Nat) : Int) := by omega
        refine Ev.aload_n dX7_bears_17 (Eq.refl 18) rfl ?_
        refine Ev.getR dX7_bears_18 (Eq.refl 21) fg_X7_33 rfl rfl (rX7_3 hR) ?_
        refine Ev.aload_n dX7_bears_21 (Eq.refl 22) rfl ?_
        refine Ev.getR dX7_bears_22 (Eq.refl 25) fg_X7_54 rfl rfl hN ?_
        refine Ev.cv1I dX7_bears_25 (Eq.refl 28) cw_X7_144 (Nat.le_of_ble_eq_true rfl) (by decide) (lyS0 (by assumption)) rfl rfl (Nat.le_of_ble_eq_true rfl) (c_find1 hR hn h7 ok ha) (fun x25 g25 hp25 => ?_)
        obtain ⟨rfl, hF2, s2, ok2, hR2, so⟩ := hp25
        have hR := hR2
        have hN : g25.2.2 0 6 = n := by rw [hF2.2.2]; exact hN
        have ev2 := s2.V.trans hV
        have bk := I'.q hF2 inS7
        refine Ev.if_ne (tgt := 34) dX7_bears_28 (Eq.refl 31) (by decide) ⟨by omega, by omega⟩ (fun c28 => ?_) (fun c28 => ?_)
        · refine Ev.aload_n dX7_bears_34 (Eq.refl 35) rfl ?_
          refine Ev.getR dX7_bears_35 (Eq.refl 38) fg_X7_33 rfl rfl (rX7_3 hR) ?_
          refine Ev.aload_n dX7_bears_38 (Eq.refl 39) rfl ?_
          refine Ev.getR dX7_bears_39 (Eq.refl 42) fg_X7_54 rfl rfl hN ?_
          refine Ev.iload_n dX7_bears_42 (Eq.refl 43) rfl ?_
          refine Ev.iload_n dX7_bears_43 (Eq.refl 44) rfl ?_
          refine Ev.cv3E dX7_bears_44 (Eq.refl 47) cw_X7_192 (Nat.le_of_ble_eq_true rfl) (by decide) (lyS0 (by assumption)) rfl rfl (Nat.le_of_ble_eq_true rfl) ((show Ev mX4_borne 1 0 (entL [.ref 7, .ref n, iv j, iv a] 7) [] g25 (PE (sm (brn (sV s) j.toNat a.toNat) (vS (sV s))) g25) by rw [← ev2]; have := c_borne (j := j.toNat) (a := a.toNat) hR hn h7 ok2 so (by rw [ev2]; omega) (by omega); rw [← jj, ← aa] at this; exact this)) ?_
          refine Ev.ldc dX7_bears_47 (Eq.refl 49) kc_X7_171 ?_
          refine Ev.iadd dX7_bears_49 (Eq.refl 50) ?_
          exact Ev.iret dX7_bears_50 rfl ((by rw [e]; exact ⟨_, rfl, rfl, bk⟩))
        · omega
      · have e : aBears s j a = (-1, s) := Prod.ext (if_neg (fun z => c12 z.2)) rfl
        refine Ev.iconst dX7_bears_15 (Eq.refl 16) ?_
        exact Ev.iret dX7_bears_16 rfl ((by rw [e]; exact ⟨_, rfl, rfl, I'⟩))
  · have e2 : ∀ c : (isJ (sV s) j ∧ vF (sV s) j.toNat = false) ∧ 0 ≤ a ∧ a ≤ 2, aBears s j a = (-2, s) := fun c => Prod.ext ((if_pos c).trans (cif_f (by rw [← hV]; exact ha))) rfl
    refine Ev.aload_n dX7_bears_0 (Eq.refl 1) rfl ?_
    refine Ev.iload_n dX7_bears_1 (Eq.refl 2) rfl ?_
    refine Ev.cv1E dX7_bears_2 (Eq.refl 5) cw_X7_119 (Nat.le_of_ble_eq_true rfl) (by decide) rfl rfl rfl (Nat.le_of_ble_eq_true rfl) (c_isFixed hN hn ok hj) ?_
    rw [hV]
    refine Ev.if_eqB (tgt := 15) dX7_bears_5 (Eq.refl 8) (by decide) (fun c5 => ?_) (fun c5 => ?_)
    · have e : aBears s j a = (-1, s) := Prod.ext (if_neg (fun z => c5 z.1)) rfl
      refine Ev.iconst dX7_bears_15 (Eq.refl 16) ?_
      exact Ev.iret dX7_bears_16 rfl ((by rw [e]; exact ⟨_, rfl, rfl, I'⟩))
    · refine Ev.iload_n dX7_bears_8 (Eq.refl 9) rfl ?_
      refine Ev.cs1E dX7_bears_9 (Eq.refl 12) cw_X7_122 (Nat.le_of_ble_eq_true rfl) (by decide) rfl (Nat.le_of_ble_eq_true rfl) (c_isAxis (by assumption)) ?_
      refine Ev.if_neB (tgt := 17) dX7_bears_12 (Eq.refl 15) (by decide) (fun c12 => ?_) (fun c12 => ?_)
      · have e := e2 ⟨c5, c12⟩
        refine Ev.aload_n dX7_bears_17 (Eq.refl 18) rfl ?_
        refine Ev.getR dX7_bears_18 (Eq.refl 21) fg_X7_33 rfl rfl (rX7_3 hR) ?_
        refine Ev.aload_n dX7_bears_21 (Eq.refl 22) rfl ?_
        refine Ev.getR dX7_bears_22 (Eq.refl 25) fg_X7_54 rfl rfl hN ?_
        refine Ev.cv1I dX7_bears_25 (Eq.refl 28) cw_X7_144 (Nat.le_of_ble_eq_true rfl) (by decide) (lyS0 (by assumption)) rfl rfl (Nat.le_of_ble_eq_true rfl) (c_find0 hR hn h7 ok ha) (fun x25 g25 hp25 => ?_)
        obtain ⟨rfl, rfl⟩ := hp25
        refine Ev.if_ne (tgt := 34) dX7_bears_28 (Eq.refl 31) (by decide) ⟨by omega, by omega⟩ (fun c28 => ?_) (fun c28 => ?_)
        · omega
        · refine Ev.bipush dX7_bears_31 (Eq.refl 33) (by decide) ?_
          exact Ev.iret dX7_bears_33 rfl ((by rw [e]; exact ⟨_, rfl, rfl, I'⟩))
      · have e : aBears s j a = (-1, s) := Prod.ext (if_neg (fun z => c12 z.2)) rfl
        refine Ev.iconst dX7_bears_15 (Eq.refl 16) ?_
        exact Ev.iret dX7_bears_16 rfl ((by rw [e]; exact ⟨_, rfl, rfl, I'⟩))
