/-! The class's calls: exact, strand, greatest, rolls, rollOf, count. -/
theorem mod_half {a b : Nat} (hb : 0 < b) (hr : 0 < a % b) : 2 * (b % (a % b)) < b := by
  have h1 := Nat.mod_lt a hb
  have h2 := Nat.mod_lt b hr
  by_cases q : 2 * (a % b) ≤ b
  · omega
  · have : b % (a % b) = b - a % b := by
      rw [Nat.mod_eq_sub_mod (by omega), Nat.mod_eq_of_lt (by omega)]
    omega
theorem c_gs {h : Hp} {x y : Nat} (hx : x < 9223372036854775807) (hy : 0 < y ∧ y < 2 ^ 40) : Ev mX7_greatestShared 1 0 (entL [jv (x : Int), jv (y : Int)] 11) [] h (PEJ ((Nat.gcd x y : Nat) : Int) h) := by
  show Ev mX7_greatestShared 1 0 [some (jv (x : Int)), none, some (jv (y : Int)), none, none, none, none, none, none, none, none] [] h _
  have g0 : 0 < Nat.gcd x y := Nat.gcd_pos_of_pos_right x hy.1
  have ONE : ∀ (i a b : Nat) (w : Option Value), i < 100 → a < 9223372036854775807 → b < 9223372036854775807 → Nat.gcd a b = Nat.gcd x y → (b ≠ 0 → Ev mX7_greatestShared 1 9 [some (jv (x : Int)), none, some (jv (y : Int)), none, some (jv (b : Int)), none, some (jv ((a % b : Nat) : Int)), none, some (iv ((i + 1 : Nat) : Int)), some (jv ((a % b : Nat) : Int)), none] [] h (PEJ ((Nat.gcd x y : Nat) : Int) h)) → Ev mX7_greatestShared 1 9 [some (jv (x : Int)), none, some (jv (y : Int)), none, some (jv (a : Int)), none, some (jv (b : Int)), none, some (iv (i : Int)), w, none] [] h (PEJ ((Nat.gcd x y : Nat) : Int) h) := by
    intro i a b w hi ha hb hg hn
    refine Ev.iload dX7_greatestShared_9 (Eq.refl 11) rfl ?_
    refine Ev.bipush dX7_greatestShared_11 (Eq.refl 13) (by decide) ?_
    refine Ev.icmp_ge (tgt := 44) dX7_greatestShared_13 (Eq.refl 16) (by decide) ⟨by omega, by omega⟩ ⟨by omega, by omega⟩ (fun c13 => ?_) (fun c13 => ?_)
    · omega
    · refine Ev.lload dX7_greatestShared_16 (Eq.refl 18) rfl ?_
      refine Ev.lconst0 dX7_greatestShared_18 (Eq.refl 19) ?_
      refine Ev.ifl_eq (tgt := 44) dX7_greatestShared_19 (Eq.refl 20) dX7_greatestShared_20 (Eq.refl 23) (by decide) ⟨by omega, by omega⟩ ⟨by omega, by omega⟩ (fun c19 => ?_) (fun c19 => ?_)
      · have b0 : b = 0 := by omega
        subst b0
        rw [Nat.gcd_zero_right] at hg
        rw [hg]
        refine Ev.lload dX7_greatestShared_44 (Eq.refl 46) rfl ?_
        refine Ev.lconst1 dX7_greatestShared_46 (Eq.refl 47) ?_
        refine Ev.mmaxL dX7_greatestShared_47 (Eq.refl 50) wm_X7_262 (by decide) (Nat.le_of_ble_eq_true rfl) ⟨by omega, by omega⟩ ⟨by omega, by omega⟩ ?_
        exact Ev.lret dX7_greatestShared_50 rfl (⟨_, rfl, by split <;> omega, rfl⟩)
      · have hn := hn (by omega)
        refine Ev.lload dX7_greatestShared_23 (Eq.refl 25) rfl ?_
        refine Ev.lload dX7_greatestShared_25 (Eq.refl 27) rfl ?_
        refine Ev.lrem dX7_greatestShared_27 (Eq.refl 28) ⟨by omega, by omega⟩ ⟨by omega, by omega⟩ (by omega) ?_
        rw [show ((a : Int)).tmod (b : Int) = ((a % b : Nat) : Int) from rfl]
        refine Ev.ls9 dX7_greatestShared_28 (Eq.refl 30) (by decide) rfl ?_
        refine Ev.lload dX7_greatestShared_30 (Eq.refl 32) rfl ?_
        refine Ev.ls4 dX7_greatestShared_32 (Eq.refl 34) (by decide) rfl ?_
        refine Ev.lload dX7_greatestShared_34 (Eq.refl 36) rfl ?_
        refine Ev.ls6 dX7_greatestShared_36 (Eq.refl 38) (by decide) rfl ?_
        refine Ev.ii8 dX7_greatestShared_38 (Eq.refl 41) (by decide) rfl ?_
        refine Ev.goto' (pc' := 9) dX7_greatestShared_41 (by decide) ?_
        exact hn
  have LOOP : ∀ (m i a b : Nat) (w : Option Value), b < 2 ^ m → i + 2 * m < 100 → a < 9223372036854775807 → b < 9223372036854775807 → Nat.gcd a b = Nat.gcd x y → Ev mX7_greatestShared 1 9 [some (jv (x : Int)), none, some (jv (y : Int)), none, some (jv (a : Int)), none, some (jv (b : Int)), none, some (iv (i : Int)), w, none] [] h (PEJ ((Nat.gcd x y : Nat) : Int) h) := by
    intro m
    induction m with
    | zero =>
      intro i a b w hb hi ha hb2 hg
      exact ONE i a b w (by omega) ha hb2 hg (fun z => by have : b < 1 := hb; omega)
    | succ m ih =>
      intro i a b w hb hi ha hb2 hg
      refine ONE i a b w (by omega) ha hb2 hg (fun z => ?_)
      have r1 := Nat.mod_lt a (show 0 < b by omega)
      have g1 : Nat.gcd b (a % b) = Nat.gcd x y := by rw [← hg, Nat.gcd_comm b, ← Nat.gcd_rec, Nat.gcd_comm]
      refine ONE (i + 1) b (a % b) _ (by omega) hb2 (by omega) g1 (fun z2 => ?_)
      have r2 := Nat.mod_lt b (show 0 < a % b by omega)
      have hh := mod_half (a := a) (b := b) (by omega) (by omega)
      have g2 : Nat.gcd (a % b) (b % (a % b)) = Nat.gcd x y := by rw [← g1, Nat.gcd_comm (a % b), ← Nat.gcd_rec, Nat.gcd_comm]
      exact ih (i + 1 + 1) (a % b) (b % (a % b)) _ (by rw [Nat.pow_succ] at hb; omega) (by omega) (by omega) (by omega) g2
  refine Ev.lload_n dX7_greatestShared_0 (Eq.refl 1) rfl ?_
  refine Ev.ls4 dX7_greatestShared_1 (Eq.refl 3) (by decide) rfl ?_
  refine Ev.lload_n dX7_greatestShared_3 (Eq.refl 4) rfl ?_
  refine Ev.ls6 dX7_greatestShared_4 (Eq.refl 6) (by decide) rfl ?_
  refine Ev.iconst dX7_greatestShared_6 (Eq.refl 7) ?_
  refine Ev.is8 dX7_greatestShared_7 (Eq.refl 9) (by decide) rfl ?_
  exact LOOP 40 0 x y _ hy.2 (by omega) hx (by have : (2 : Nat) ^ 40 = 1099511627776 := (by decide); omega) rfl
theorem p_exact {h : Hp} {s : St} {j a p : Int} (I : CInv h s) (hj : I32 j) (hA : I32 a) (hp : I32 p) : Ev mX7_exact 4 0 (entL [.ref 0, iv j, iv a, iv p] 10) [] h (PA (aExact s j a p)) := by
  show Ev mX7_exact 4 0 [some (.ref 0), some (iv j), some (iv a), some (iv p), none, none, none, none, none, none] [] h _
  have I' := I
  obtain ⟨hR, ⟨n, d, hnd, hN, hD, ok, hV⟩, hT, hP⟩ := I
  have hn : isNet n := by omega
  have h7 : isShp 7 := Or.inl rfl
  have bJ := ok.1
  have eJ := cV_J ok
  have hv := ok.2.2.2.2.2
  rw [hV] at eJ hv
  have i0 : I32 0 := ⟨by omega, by omega⟩
  have i1 : I32 1 := ⟨by omega, by omega⟩
  by_cases ha : aH (cV h n) (hgV (cV h n))
  · have ha2 : aH (sV s) (hgV (sV s)) := by rw [← hV]; exact ha
    have db := dB_b hv ha2
    have dp := dB_pos hv ha2 (Nat.le_refl (vN (sV s)))
    have e2 : ∀ c : isJ (sV s) j ∧ (0 ≤ a ∧ a ≤ 2) ∧ 0 ≤ p ∧ p ≤ 1, aExact s j a p = ((if p = 0 then zA (sV s) j.toNat a.toNat else dB (sV s) (vN (sV s))).tdiv (gcdV (sV s) j.toNat a.toNat), s) := fun c => Prod.ext ((if_pos c).trans (cif_t ha2)) rfl
    refine Ev.aload_n dX7_exact_0 (Eq.refl 1) rfl ?_
    refine Ev.getR dX7_exact_1 (Eq.refl 4) fg_X7_54 rfl rfl hN ?_
    refine Ev.iload_n dX7_exact_4 (Eq.refl 5) rfl ?_
    refine Ev.cv1E dX7_exact_5 (Eq.refl 8) cw_X7_110 (Nat.le_of_ble_eq_true rfl) (by decide) (lyN0 (by assumption)) rfl rfl (Nat.le_of_ble_eq_true rfl) (c_hasJoint (by assumption) (by assumption) (by omega)) ?_
    refine Ev.if_eqB (tgt := 27) dX7_exact_8 (Eq.refl 11) (by decide) (fun c8 => ?_) (fun c8 => ?_)
    · have e : aExact s j a p = (-2000000000, s) := Prod.ext (if_neg (fun z => c8 ⟨z.1.1, by have := z.1.2; omega⟩)) rfl
      refine Ev.ldc dX7_exact_27 (Eq.refl 29) kc_X7_172 ?_
      exact Ev.iret dX7_exact_29 rfl ((by rw [e]; exact ⟨_, rfl, rfl, I'⟩))
    · refine Ev.iload_n dX7_exact_11 (Eq.refl 12) rfl ?_
      refine Ev.cs1E dX7_exact_12 (Eq.refl 15) cw_X7_122 (Nat.le_of_ble_eq_true rfl) (by decide) rfl (Nat.le_of_ble_eq_true rfl) (c_isAxis (by assumption)) ?_
      refine Ev.if_eqB (tgt := 27) dX7_exact_15 (Eq.refl 18) (by decide) (fun c15 => ?_) (fun c15 => ?_)
      · have e : aExact s j a p = (-2000000000, s) := Prod.ext (if_neg (fun z => c15 z.2.1)) rfl
        refine Ev.ldc dX7_exact_27 (Eq.refl 29) kc_X7_172 ?_
        exact Ev.iret dX7_exact_29 rfl ((by rw [e]; exact ⟨_, rfl, rfl, I'⟩))
      · refine Ev.iload_n dX7_exact_18 (Eq.refl 19) rfl ?_
        refine Ev.iconst dX7_exact_19 (Eq.refl 20) ?_
        refine Ev.iconst dX7_exact_20 (Eq.refl 21) ?_
        refine Ev.cs3E dX7_exact_21 (Eq.refl 24) cw_X7_85 (Nat.le_of_ble_eq_true rfl) (by decide) rfl (Nat.le_of_ble_eq_true rfl) (c_isWithin (by assumption) (by assumption) (by assumption)) ?_
        refine Ev.if_neB (tgt := 30) dX7_exact_24 (Eq.refl 27) (by decide) (fun c24 => ?_) (fun c24 => ?_)
        · have e := e2 ⟨⟨c8.1, by omega⟩, c15, c24⟩
          have jj : j = ((j.toNat : Nat) : Int) := by omega
          have aa : a = ((a.toNat : Nat) : Int) := by omega
          have zb := zA_b hv ha2 (show j.toNat < vJ (sV s) by omega) (show a.toNat < 3 by omega)
          refine Ev.aload_n dX7_exact_30 (Eq.refl 31) rfl ?_
          refine Ev.getR dX7_exact_31 (Eq.refl 34) fg_X7_33 rfl rfl (rX7_3 hR) ?_
          refine Ev.aload_n dX7_exact_34 (Eq.refl 35) rfl ?_
          refine Ev.getR dX7_exact_35 (Eq.refl 38) fg_X7_54 rfl rfl hN ?_
          refine Ev.cv1I dX7_exact_38 (Eq.refl 41) cw_X7_144 (Nat.le_of_ble_eq_true rfl) (by decide) (lyS0 (by assumption)) rfl rfl (Nat.le_of_ble_eq_true rfl) (c_find1 hR hn h7 ok ha) (fun x38 g38 hp38 => ?_)
          obtain ⟨rfl, hF2, s2, ok2, hR2, so⟩ := hp38
          have hR := hR2
          have hN : g38.2.2 0 6 = n := by rw [hF2.2.2]; exact hN
          have ev2 := s2.V.trans hV
          have bk := I'.q hF2 inS7
          have sb : g38.2.1 7 5 = dB (sV s) (vN (sV s)) := by have := so.2.1.2.2; rw [ev2] at this; exact this
          refine Ev.if_ne (tgt := 47) dX7_exact_41 (Eq.refl 44) (by decide) ⟨by omega, by omega⟩ (fun c41 => ?_) (fun c41 => ?_)
          · refine Ev.aload_n dX7_exact_47 (Eq.refl 48) rfl ?_
            refine Ev.getR dX7_exact_48 (Eq.refl 51) fg_X7_33 rfl rfl (rX7_3 hR) ?_
            refine Ev.aload_n dX7_exact_51 (Eq.refl 52) rfl ?_
            refine Ev.getR dX7_exact_52 (Eq.refl 55) fg_X7_54 rfl rfl hN ?_
            refine Ev.iload_n dX7_exact_55 (Eq.refl 56) rfl ?_
            refine Ev.iload_n dX7_exact_56 (Eq.refl 57) rfl ?_
            refine Ev.cv3F dX7_exact_57 (Eq.refl 60) cw_X7_174 (Nat.le_of_ble_eq_true rfl) (by decide) (lyS0 (by assumption)) rfl rfl (Nat.le_of_ble_eq_true rfl) ((show Ev mX4_above 1 0 (entL [.ref 7, .ref n, iv j, iv a] 4) [] g38 (PEJ (zA (sV s) j.toNat a.toNat) g38) by rw [← ev2]; have := c_above (j := j.toNat) (a := a.toNat) hR hn h7 ok2 so.2.1 (by rw [ev2]; omega) (by omega); rw [← jj, ← aa] at this; exact this)) ?_
            refine Ev.ls4 dX7_exact_60 (Eq.refl 62) (by decide) rfl ?_
            refine Ev.aload_n dX7_exact_62 (Eq.refl 63) rfl ?_
            refine Ev.getR dX7_exact_63 (Eq.refl 66) fg_X7_33 rfl rfl (rX7_3 hR) ?_
            refine Ev.getL dX7_exact_66 (Eq.refl 69) fg_X7_178 (lyS0 (by assumption)) rfl ?_
            rw [sb]
            refine Ev.ls6 dX7_exact_69 (Eq.refl 71) (by decide) rfl ?_
            refine Ev.lload dX7_exact_71 (Eq.refl 73) rfl ?_
            refine Ev.mabsL dX7_exact_73 (Eq.refl 76) wm_X7_182 (by decide) (Nat.le_of_ble_eq_true rfl) ⟨by omega, by omega⟩ ?_
            rw [show (if 0 < zA (sV s) j.toNat a.toNat then zA (sV s) j.toNat a.toNat else -zA (sV s) j.toNat a.toNat) = (((zA (sV s) j.toNat a.toNat).natAbs : Nat) : Int) by split <;> omega]
            have dd : dB (sV s) (vN (sV s)) = (((dB (sV s) (vN (sV s))).natAbs : Nat) : Int) := by omega
            have gg : gcdV (sV s) j.toNat a.toNat = ((Nat.gcd (zA (sV s) j.toNat a.toNat).natAbs (dB (sV s) (vN (sV s))).natAbs : Nat) : Int) := rfl
            have gp : 0 < Nat.gcd (zA (sV s) j.toNat a.toNat).natAbs (dB (sV s) (vN (sV s))).natAbs := Nat.gcd_pos_of_pos_right _ (by omega)
            have gl : Nat.gcd (zA (sV s) j.toNat a.toNat).natAbs (dB (sV s) (vN (sV s))).natAbs ≤ (dB (sV s) (vN (sV s))).natAbs := Nat.gcd_le_right _ (by omega)
            refine Ev.lload dX7_exact_76 (Eq.refl 78) rfl ?_
            refine Ev.cs2F dX7_exact_78 (Eq.refl 81) cw_X7_188 (Nat.le_of_ble_eq_true rfl) (by decide) rfl (Nat.le_of_ble_eq_true rfl) ((show Ev mX7_greatestShared 1 0 (entL [jv (((zA (sV s) j.toNat a.toNat).natAbs : Nat) : Int), jv (dB (sV s) (vN (sV s)))] 11) [] g38 (PEJ (gcdV (sV s) j.toNat a.toNat) g38) by have L := c_gs (h := g38) (x := (zA (sV s) j.toNat a.toNat).natAbs) (y := (dB (sV s) (vN (sV s))).natAbs) (by omega) ⟨by omega, by have : (2 : Nat) ^ 40 = 1099511627776 := (by decide); omega⟩; rw [← dd] at L; exact L)) ?_
            refine Ev.ls8 dX7_exact_81 (Eq.refl 83) (by decide) rfl ?_
            refine Ev.iload_n dX7_exact_83 (Eq.refl 84) rfl ?_
            refine Ev.if_ne (tgt := 92) dX7_exact_84 (Eq.refl 87) (by decide) ⟨by omega, by omega⟩ (fun c84 => ?_) (fun c84 => ?_)
            · refine Ev.lload dX7_exact_92 (Eq.refl 94) rfl ?_
              refine Ev.lload dX7_exact_94 (Eq.refl 96) rfl ?_
              refine Ev.ldiv dX7_exact_96 (Eq.refl 97) ⟨by omega, by omega⟩ ⟨by omega, by omega⟩ (by omega) ?_
              refine Ev.l2i dX7_exact_97 (Eq.refl 98) ?_
              exact Ev.iret dX7_exact_98 rfl ((by rw [e]; first | exact ⟨_, rfl, by rw [if_pos c84], bk⟩ | exact ⟨_, rfl, by rw [if_neg c84], bk⟩))
            · refine Ev.lload dX7_exact_87 (Eq.refl 89) rfl ?_
              refine Ev.goto' (pc' := 94) dX7_exact_89 (by decide) ?_
              refine Ev.lload dX7_exact_94 (Eq.refl 96) rfl ?_
              refine Ev.ldiv dX7_exact_96 (Eq.refl 97) ⟨by omega, by omega⟩ ⟨by omega, by omega⟩ (by omega) ?_
              refine Ev.l2i dX7_exact_97 (Eq.refl 98) ?_
              exact Ev.iret dX7_exact_98 rfl ((by rw [e]; first | exact ⟨_, rfl, by rw [if_pos c84], bk⟩ | exact ⟨_, rfl, by rw [if_neg c84], bk⟩))
          · omega
        · have e : aExact s j a p = (-2000000000, s) := Prod.ext (if_neg (fun z => c24 z.2.2)) rfl
          refine Ev.ldc dX7_exact_27 (Eq.refl 29) kc_X7_172 ?_
          exact Ev.iret dX7_exact_29 rfl ((by rw [e]; exact ⟨_, rfl, rfl, I'⟩))
  · have e2 : ∀ c : isJ (sV s) j ∧ (0 ≤ a ∧ a ≤ 2) ∧ 0 ≤ p ∧ p ≤ 1, aExact s j a p = (-2000000001, s) := fun c => Prod.ext ((if_pos c).trans (cif_f (by rw [← hV]; exact ha))) rfl
    refine Ev.aload_n dX7_exact_0 (Eq.refl 1) rfl ?_
    refine Ev.getR dX7_exact_1 (Eq.refl 4) fg_X7_54 rfl rfl hN ?_
    refine Ev.iload_n dX7_exact_4 (Eq.refl 5) rfl ?_
    refine Ev.cv1E dX7_exact_5 (Eq.refl 8) cw_X7_110 (Nat.le_of_ble_eq_true rfl) (by decide) (lyN0 (by assumption)) rfl rfl (Nat.le_of_ble_eq_true rfl) (c_hasJoint (by assumption) (by assumption) (by omega)) ?_
    refine Ev.if_eqB (tgt := 27) dX7_exact_8 (Eq.refl 11) (by decide) (fun c8 => ?_) (fun c8 => ?_)
    · have e : aExact s j a p = (-2000000000, s) := Prod.ext (if_neg (fun z => c8 ⟨z.1.1, by have := z.1.2; omega⟩)) rfl
      refine Ev.ldc dX7_exact_27 (Eq.refl 29) kc_X7_172 ?_
      exact Ev.iret dX7_exact_29 rfl ((by rw [e]; exact ⟨_, rfl, rfl, I'⟩))
    · refine Ev.iload_n dX7_exact_11 (Eq.refl 12) rfl ?_
      refine Ev.cs1E dX7_exact_12 (Eq.refl 15) cw_X7_122 (Nat.le_of_ble_eq_true rfl) (by decide) rfl (Nat.le_of_ble_eq_true rfl) (c_isAxis (by assumption)) ?_
      refine Ev.if_eqB (tgt := 27) dX7_exact_15 (Eq.refl 18) (by decide) (fun c15 => ?_) (fun c15 => ?_)
      · have e : aExact s j a p = (-2000000000, s) := Prod.ext (if_neg (fun z => c15 z.2.1)) rfl
        refine Ev.ldc dX7_exact_27 (Eq.refl 29) kc_X7_172 ?_
        exact Ev.iret dX7_exact_29 rfl ((by rw [e]; exact ⟨_, rfl, rfl, I'⟩))
      · refine Ev.iload_n dX7_exact_18 (Eq.refl 19) rfl ?_
        refine Ev.iconst dX7_exact_19 (Eq.refl 20) ?_
        refine Ev.iconst dX7_exact_20 (Eq.refl 21) ?_
        refine Ev.cs3E dX7_exact_21 (Eq.refl 24) cw_X7_85 (Nat.le_of_ble_eq_true rfl) (by decide) rfl (Nat.le_of_ble_eq_true rfl) (c_isWithin (by assumption) (by assumption) (by assumption)) ?_
        refine Ev.if_neB (tgt := 30) dX7_exact_24 (Eq.refl 27) (by decide) (fun c24 => ?_) (fun c24 => ?_)
        · have e := e2 ⟨⟨c8.1, by omega⟩, c15, c24⟩
          refine Ev.aload_n dX7_exact_30 (Eq.refl 31) rfl ?_
          refine Ev.getR dX7_exact_31 (Eq.refl 34) fg_X7_33 rfl rfl (rX7_3 hR) ?_
          refine Ev.aload_n dX7_exact_34 (Eq.refl 35) rfl ?_
          refine Ev.getR dX7_exact_35 (Eq.refl 38) fg_X7_54 rfl rfl hN ?_
          refine Ev.cv1I dX7_exact_38 (Eq.refl 41) cw_X7_144 (Nat.le_of_ble_eq_true rfl) (by decide) (lyS0 (by assumption)) rfl rfl (Nat.le_of_ble_eq_true rfl) (c_find0 hR hn h7 ok ha) (fun x38 g38 hp38 => ?_)
          obtain ⟨rfl, rfl⟩ := hp38
          refine Ev.if_ne (tgt := 47) dX7_exact_41 (Eq.refl 44) (by decide) ⟨by omega, by omega⟩ (fun c41 => ?_) (fun c41 => ?_)
          · omega
          · refine Ev.ldc dX7_exact_44 (Eq.refl 46) kc_X7_173 ?_
            exact Ev.iret dX7_exact_46 rfl ((by rw [e]; exact ⟨_, rfl, rfl, I'⟩))
        · have e : aExact s j a p = (-2000000000, s) := Prod.ext (if_neg (fun z => c24 z.2.2)) rfl
          refine Ev.ldc dX7_exact_27 (Eq.refl 29) kc_X7_172 ?_
          exact Ev.iret dX7_exact_29 rfl ((by rw [e]; exact ⟨_, rfl, rfl, I'⟩))
