/-! The class's calls: rolls, rollOf, count. -/
theorem inCQ : ∀ i, inC i → inQ i := fun i z => by unfold inC at z; unfold inQ; omega
theorem p_rolls {h : Hp} {s : St} {w : Int} (I : CInv h s) (hw : I32 w) : Ev mX7_rolls 17 0 (entL [.ref 0, iv w] 2) [] h (PA (aRolls s w)) := by
  show Ev mX7_rolls 17 0 [some (.ref 0), some (iv w)] [] h _
  have I' := I
  obtain ⟨hR, ⟨n, d, hnd, hN, hD, ok, hV⟩, hT, hP⟩ := I
  have hn : isNet n := by omega
  have h7 : isShp 7 := Or.inl rfl
  have hv := ok.2.2.2.2.2
  rw [hV] at hv
  have i0 : I32 0 := ⟨by omega, by omega⟩
  have i2 : I32 2 := ⟨by omega, by omega⟩
  by_cases ha : aH (cV h n) (hgV (cV h n))
  · have ha2 : aH (sV s) (hgV (sV s)) := by rw [← hV]; exact ha
    refine Ev.iload_n dX7_rolls_0 (Eq.refl 1) rfl ?_
    refine Ev.iconst dX7_rolls_1 (Eq.refl 2) ?_
    refine Ev.iconst dX7_rolls_2 (Eq.refl 3) ?_
    refine Ev.cs3E dX7_rolls_3 (Eq.refl 6) cw_X7_85 (Nat.le_of_ble_eq_true rfl) (by decide) rfl (Nat.le_of_ble_eq_true rfl) (c_isWithin (by assumption) (by assumption) (by assumption)) ?_
    refine Ev.if_neB (tgt := 11) dX7_rolls_6 (Eq.refl 9) (by decide) (fun c6 => ?_) (fun c6 => ?_)
    · have e : aRolls s w = (cif (fitAll (sV s)) (if w = 0 then ((ffV (sV s)).2 : Int) else if w = 1 then minV (sV s) else sm (ffV (sV s)).1 (ffV (sV s)).2) (-4), s) := Prod.ext ((if_pos c6).trans (cif_t ha2)) rfl
      refine Ev.aload_n dX7_rolls_11 (Eq.refl 12) rfl ?_
      refine Ev.getR dX7_rolls_12 (Eq.refl 15) fg_X7_33 rfl rfl (rX7_3 hR) ?_
      refine Ev.aload_n dX7_rolls_15 (Eq.refl 16) rfl ?_
      refine Ev.getR dX7_rolls_16 (Eq.refl 19) fg_X7_54 rfl rfl hN ?_
      refine Ev.cv1I dX7_rolls_19 (Eq.refl 22) cw_X7_144 (Nat.le_of_ble_eq_true rfl) (by decide) (lyS0 (by assumption)) rfl rfl (Nat.le_of_ble_eq_true rfl) (c_find1 hR hn h7 ok ha) (fun x19 g19 hp19 => ?_)
      obtain ⟨rfl, hF2, s2, ok2, hR2, so⟩ := hp19
      have hR := hR2
      have hN : g19.2.2 0 6 = n := by rw [hF2.2.2]; exact hN
      have ev2 := s2.V.trans hV
      have hag : aH (cV g19 n) (hgV (cV g19 n)) := by rw [ev2]; exact ha2
      have hlg : lns g19 7 (cV g19 n) := so.2.2.2
      refine Ev.if_ne (tgt := 28) dX7_rolls_22 (Eq.refl 25) (by decide) ⟨by omega, by omega⟩ (fun c22 => ?_) (fun c22 => ?_)
      · refine Ev.aload_n dX7_rolls_28 (Eq.refl 29) rfl ?_
        refine Ev.getR dX7_rolls_29 (Eq.refl 32) fg_X7_47 rfl rfl (rX7_5 hR) ?_
        refine Ev.aload_n dX7_rolls_32 (Eq.refl 33) rfl ?_
        refine Ev.getR dX7_rolls_33 (Eq.refl 36) fg_X7_54 rfl rfl hN ?_
        refine Ev.aload_n dX7_rolls_36 (Eq.refl 37) rfl ?_
        refine Ev.getR dX7_rolls_37 (Eq.refl 40) fg_X7_33 rfl rfl (rX7_3 hR) ?_
        refine Ev.getR dX7_rolls_40 (Eq.refl 43) fg_X7_148 (lyS0 (by assumption)) rfl (rS3 hR (by assumption)) ?_
        refine Ev.cv2I dX7_rolls_43 (Eq.refl 46) cw_X7_237 (Nat.le_of_ble_eq_true rfl) (by decide) rfl rfl rfl (Nat.le_of_ble_eq_true rfl) (c_firstFit hR hn h7 ok2 hag hlg) (fun x43 g43 hp43 => ?_)
        obtain ⟨hF3, hx⟩ := hp43
        rw [ev2] at hx
        have bk := (I'.q hF2 inS7).q hF3 inCQ
        have hR := hF3.R hR
        have x01 : x43 = 0 ∨ x43 = 1 := (by rcases hx with ⟨_, z⟩ | ⟨_, z, _⟩; exact Or.inl z; exact Or.inr z)
        refine Ev.if_ne (tgt := 52) dX7_rolls_46 (Eq.refl 49) (by decide) ⟨by omega, by omega⟩ (fun c46 => ?_) (fun c46 => ?_)
        · obtain ⟨hfit, P, o, ho, hc⟩ : fitAll (sV s) ∧ ∃ P o, isOrd (sV s) P o ∧ CutOk g43 (sV s) P o := (by rcases hx with ⟨_, z⟩ | ⟨z1, _, z2⟩; exact absurd z c46; exact ⟨z1, z2⟩)
          rw [cif_t hfit, ffV_of ho] at e
          have hx0 := fun k => xs_0 hv ha2 ho k
          have inv := ff_inv (Z := Zr (sV s)) (x := xs (sV s) P o) P hc.1 (fun i hi => ⟨hx0 i, by rw [show xs (sV s) P o i = szV (sV s) (o i) from if_pos hi]; exact hfit _ (ho.1 i hi).1 (ho.1 i hi).2⟩)
          have ul : (ff (Zr (sV s)) (xs (sV s) P o) P).2 ≤ 14 := by have := inv.1; have := hc.1; omega
          have h6 := hc.2.2.2.1
          refine Ev.iload_n dX7_rolls_52 (Eq.refl 53) rfl ?_
          rcases (by omega : (w ≠ 0 ∧ w ≠ 1) ∨ w = 0 ∨ w = 1) with c53 | c53 | c53
          · refine Ev.look (tgt := 96) (off := 43) dX7_rolls_53 (by decide) ⟨by omega, by omega⟩ (by simp only [Op.lookupswitch.offset_cons, Op.lookupswitch.offset]; repeat' split; all_goals omega) (by decide) ?_
            refine Ev.aload_n dX7_rolls_96 (Eq.refl 97) rfl ?_
            refine Ev.getR dX7_rolls_97 (Eq.refl 100) fg_X7_47 rfl rfl (rX7_5 hR) ?_
            refine Ev.cv0E dX7_rolls_100 (Eq.refl 103) cw_X7_247 (Nat.le_of_ble_eq_true rfl) (by decide) rfl rfl rfl (Nat.le_of_ble_eq_true rfl) (c_leftOver hR ul h6) ?_
            exact Ev.iret dX7_rolls_103 rfl ((by rw [e]; exact ⟨_, rfl, by rw [if_neg (by omega), if_neg (by omega)]; exact sm_congr _ hc.2.2.2.2.1, bk⟩))
          · refine Ev.look (tgt := 80) (off := 27) dX7_rolls_53 (by decide) ⟨by omega, by omega⟩ (by rw [c53] <;> rfl) (by decide) ?_
            refine Ev.aload_n dX7_rolls_80 (Eq.refl 81) rfl ?_
            refine Ev.getR dX7_rolls_81 (Eq.refl 84) fg_X7_47 rfl rfl (rX7_5 hR) ?_
            refine Ev.getI dX7_rolls_84 (Eq.refl 87) fg_X7_241 rfl rfl ?_
            rw [h6]
            exact Ev.iret dX7_rolls_87 rfl ((by rw [e]; exact ⟨_, rfl, by rw [if_pos c53], bk⟩))
          · refine Ev.look (tgt := 88) (off := 35) dX7_rolls_53 (by decide) ⟨by omega, by omega⟩ (by rw [c53] <;> rfl) (by decide) ?_
            refine Ev.aload_n dX7_rolls_88 (Eq.refl 89) rfl ?_
            refine Ev.getR dX7_rolls_89 (Eq.refl 92) fg_X7_47 rfl rfl (rX7_5 hR) ?_
            refine Ev.cv0I dX7_rolls_92 (Eq.refl 95) cw_X7_244 (Nat.le_of_ble_eq_true rfl) (by decide) rfl rfl rfl (Nat.le_of_ble_eq_true rfl) (c_fewest hR hv ha2 hfit ⟨ho, hc⟩) (fun x92 g92 hp92 => ?_)
            obtain ⟨hF4, hm⟩ := hp92
            exact Ev.iret dX7_rolls_95 rfl ((by rw [e]; exact ⟨_, rfl, by rw [if_neg (by omega), if_pos c53]; exact (minV_of hm).symm, bk.q hF4 (fun i z => by unfold inQ; omega)⟩))
        · have nf : ¬ fitAll (sV s) := (by rcases hx with ⟨z, _⟩ | ⟨_, z, _⟩; exact z; omega)
          rw [cif_f nf] at e
          refine Ev.bipush dX7_rolls_49 (Eq.refl 51) (by decide) ?_
          exact Ev.iret dX7_rolls_51 rfl ((by rw [e]; exact ⟨_, rfl, rfl, bk⟩))
      · omega
    · have e : aRolls s w = (-1, s) := Prod.ext (if_neg c6) rfl
      refine Ev.iconst dX7_rolls_9 (Eq.refl 10) ?_
      exact Ev.iret dX7_rolls_10 rfl ((by rw [e]; exact ⟨_, rfl, rfl, I'⟩))
  · have h8 : isShp 7 := h7
    refine Ev.iload_n dX7_rolls_0 (Eq.refl 1) rfl ?_
    refine Ev.iconst dX7_rolls_1 (Eq.refl 2) ?_
    refine Ev.iconst dX7_rolls_2 (Eq.refl 3) ?_
    refine Ev.cs3E dX7_rolls_3 (Eq.refl 6) cw_X7_85 (Nat.le_of_ble_eq_true rfl) (by decide) rfl (Nat.le_of_ble_eq_true rfl) (c_isWithin (by assumption) (by assumption) (by assumption)) ?_
    refine Ev.if_neB (tgt := 11) dX7_rolls_6 (Eq.refl 9) (by decide) (fun c6 => ?_) (fun c6 => ?_)
    · have e : aRolls s w = (-2, s) := Prod.ext ((if_pos c6).trans (cif_f (by rw [← hV]; exact ha))) rfl
      refine Ev.aload_n dX7_rolls_11 (Eq.refl 12) rfl ?_
      refine Ev.getR dX7_rolls_12 (Eq.refl 15) fg_X7_33 rfl rfl (rX7_3 hR) ?_
      refine Ev.aload_n dX7_rolls_15 (Eq.refl 16) rfl ?_
      refine Ev.getR dX7_rolls_16 (Eq.refl 19) fg_X7_54 rfl rfl hN ?_
      refine Ev.cv1I dX7_rolls_19 (Eq.refl 22) cw_X7_144 (Nat.le_of_ble_eq_true rfl) (by decide) (lyS0 (by assumption)) rfl rfl (Nat.le_of_ble_eq_true rfl) (c_find0 hR hn h7 ok ha) (fun x19 g19 hp19 => ?_)
      obtain ⟨rfl, rfl⟩ := hp19
      refine Ev.if_ne (tgt := 28) dX7_rolls_22 (Eq.refl 25) (by decide) ⟨by omega, by omega⟩ (fun c22 => ?_) (fun c22 => ?_)
      · omega
      · refine Ev.bipush dX7_rolls_25 (Eq.refl 27) (by decide) ?_
        exact Ev.iret dX7_rolls_27 rfl ((by rw [e]; exact ⟨_, rfl, rfl, I'⟩))
    · have e : aRolls s w = (-1, s) := Prod.ext (if_neg c6) rfl
      refine Ev.iconst dX7_rolls_9 (Eq.refl 10) ?_
      exact Ev.iret dX7_rolls_10 rfl ((by rw [e]; exact ⟨_, rfl, rfl, I'⟩))
theorem p_rollOf {h : Hp} {s : St} {k : Int} (I : CInv h s) (hk : I32 k) : Ev mX7_rollOf 4 0 (entL [.ref 0, iv k] 2) [] h (PA (aRollOf s k)) := by
  show Ev mX7_rollOf 4 0 [some (.ref 0), some (iv k)] [] h _
  have I' := I
  obtain ⟨hR, ⟨n, d, hnd, hN, hD, ok, hV⟩, hT, hP⟩ := I
  have hn : isNet n := by omega
  have h7 : isShp 7 := Or.inl rfl
  have hv := ok.2.2.2.2.2
  have bS := ok.2.2.1
  have eSt := cV_S ok
  rw [hV] at hv eSt
  have hS14 := hv.2.1
  by_cases ha : aH (cV h n) (hgV (cV h n))
  · have ha2 : aH (sV s) (hgV (sV s)) := by rw [← hV]; exact ha
    refine Ev.aload_n dX7_rollOf_0 (Eq.refl 1) rfl ?_
    refine Ev.getR dX7_rollOf_1 (Eq.refl 4) fg_X7_54 rfl rfl hN ?_
    refine Ev.iload_n dX7_rollOf_4 (Eq.refl 5) rfl ?_
    refine Ev.cv1E dX7_rollOf_5 (Eq.refl 8) cw_X7_95 (Nat.le_of_ble_eq_true rfl) (by decide) (lyN0 (by assumption)) rfl rfl (Nat.le_of_ble_eq_true rfl) (c_hasStrand (by assumption) (by assumption) (by omega)) ?_
    refine Ev.if_neB (tgt := 13) dX7_rollOf_8 (Eq.refl 11) (by decide) (fun c8 => ?_) (fun c8 => ?_)
    · have e : aRollOf s k = (if vH (sV s) k.toNat = true then cif (fitAll (sV s)) (rofV (sV s) k.toNat) (-4) else -4, s) := Prod.ext ((if_pos ⟨c8.1, by omega⟩).trans (cif_t ha2)) rfl
      refine Ev.aload_n dX7_rollOf_13 (Eq.refl 14) rfl ?_
      refine Ev.getR dX7_rollOf_14 (Eq.refl 17) fg_X7_33 rfl rfl (rX7_3 hR) ?_
      refine Ev.aload_n dX7_rollOf_17 (Eq.refl 18) rfl ?_
      refine Ev.getR dX7_rollOf_18 (Eq.refl 21) fg_X7_54 rfl rfl hN ?_
      refine Ev.cv1I dX7_rollOf_21 (Eq.refl 24) cw_X7_144 (Nat.le_of_ble_eq_true rfl) (by decide) (lyS0 (by assumption)) rfl rfl (Nat.le_of_ble_eq_true rfl) (c_find1 hR hn h7 ok ha) (fun x21 g21 hp21 => ?_)
      obtain ⟨rfl, hF2, s2, ok2, hR2, so⟩ := hp21
      have hR := hR2
      have hN : g21.2.2 0 6 = n := by rw [hF2.2.2]; exact hN
      have ev2 := s2.V.trans hV
      have hag : aH (cV g21 n) (hgV (cV g21 n)) := by rw [ev2]; exact ha2
      have hlg : lns g21 7 (cV g21 n) := so.2.2.2
      have hH := ok2.2.2.2.1.1
      have hH2 := ok2.f3
      have hhg := cV_H (s := k.toNat) ok2
      rw [ev2] at hhg
      have bk := I'.q hF2 inS7
      refine Ev.if_ne (tgt := 30) dX7_rollOf_24 (Eq.refl 27) (by decide) ⟨by omega, by omega⟩ (fun c24 => ?_) (fun c24 => ?_)
      · refine Ev.aload_n dX7_rollOf_30 (Eq.refl 31) rfl ?_
        refine Ev.getR dX7_rollOf_31 (Eq.refl 34) fg_X7_54 rfl rfl hN ?_
        refine Ev.iload_n dX7_rollOf_34 (Eq.refl 35) rfl ?_
        refine Ev.cv1E dX7_rollOf_35 (Eq.refl 38) cw_X7_128 (Nat.le_of_ble_eq_true rfl) (by decide) (lyN0 (by assumption)) rfl rfl (Nat.le_of_ble_eq_true rfl) (c_hangs (by assumption) (by omega) (by omega)) ?_
        refine Ev.if_eqB (tgt := 62) dX7_rollOf_38 (Eq.refl 41) (by decide) (fun c38 => ?_) (fun c38 => ?_)
        · rw [if_neg (fun z => c38 (hhg.mpr z))] at e
          refine Ev.bipush dX7_rollOf_62 (Eq.refl 64) (by decide) ?_
          exact Ev.iret dX7_rollOf_64 rfl ((by rw [e]; exact ⟨_, rfl, rfl, bk⟩))
        · have hh := hhg.mp c38
          rw [if_pos hh] at e
          refine Ev.aload_n dX7_rollOf_41 (Eq.refl 42) rfl ?_
          refine Ev.getR dX7_rollOf_42 (Eq.refl 45) fg_X7_47 rfl rfl (rX7_5 hR) ?_
          refine Ev.aload_n dX7_rollOf_45 (Eq.refl 46) rfl ?_
          refine Ev.getR dX7_rollOf_46 (Eq.refl 49) fg_X7_54 rfl rfl hN ?_
          refine Ev.aload_n dX7_rollOf_49 (Eq.refl 50) rfl ?_
          refine Ev.getR dX7_rollOf_50 (Eq.refl 53) fg_X7_33 rfl rfl (rX7_3 hR) ?_
          refine Ev.getR dX7_rollOf_53 (Eq.refl 56) fg_X7_148 (lyS0 (by assumption)) rfl (rS3 hR (by assumption)) ?_
          refine Ev.cv2I dX7_rollOf_56 (Eq.refl 59) cw_X7_237 (Nat.le_of_ble_eq_true rfl) (by decide) rfl rfl rfl (Nat.le_of_ble_eq_true rfl) (c_firstFit hR hn h7 ok2 hag hlg) (fun x56 g56 hp56 => ?_)
          obtain ⟨hF3, hx⟩ := hp56
          rw [ev2] at hx
          have bk := (I'.q hF2 inS7).q hF3 inCQ
          have hR := hF3.R hR
          have x01 : x56 = 0 ∨ x56 = 1 := (by rcases hx with ⟨_, z⟩ | ⟨_, z, _⟩; exact Or.inl z; exact Or.inr z)
          refine Ev.if_ne (tgt := 65) dX7_rollOf_59 (Eq.refl 62) (by decide) ⟨by omega, by omega⟩ (fun c59 => ?_) (fun c59 => ?_)
          · obtain ⟨hfit, P, o, ho, hc⟩ : fitAll (sV s) ∧ ∃ P o, isOrd (sV s) P o ∧ CutOk g56 (sV s) P o := (by rcases hx with ⟨_, z⟩ | ⟨z1, _, z2⟩; exact absurd z c59; exact ⟨z1, z2⟩)
            rw [cif_t hfit] at e
            obtain ⟨i, hi, ei⟩ := ho.2.2 k.toNat (by omega) hh
            have er := hc.2.2.2.2.2.1 i hi
            have ev := rofV_of ho hi
            rw [ei] at er ev
            refine Ev.aload_n dX7_rollOf_65 (Eq.refl 66) rfl ?_
            refine Ev.getR dX7_rollOf_66 (Eq.refl 69) fg_X7_47 rfl rfl (rX7_5 hR) ?_
            refine Ev.getR dX7_rollOf_69 (Eq.refl 72) fg_X7_250 rfl rfl (rX0_3 hR) ?_
            refine Ev.iload_n dX7_rollOf_72 (Eq.refl 73) rfl ?_
            refine Ev.iaload dX7_rollOf_73 (Eq.refl 74) rfl rfl (by omega) (by decide) (by first | with_reducible exact Int.toNat_natCast _ | exact Eq.refl _) ?_
            rw [er, ← ev]
            exact Ev.iret dX7_rollOf_74 rfl ((by rw [e]; exact ⟨_, rfl, rfl, bk⟩))
          · have nf : ¬ fitAll (sV s) := (by rcases hx with ⟨z, _⟩ | ⟨_, z, _⟩; exact z; omega)
            rw [cif_f nf] at e
            refine Ev.bipush dX7_rollOf_62 (Eq.refl 64) (by decide) ?_
            exact Ev.iret dX7_rollOf_64 rfl ((by rw [e]; exact ⟨_, rfl, rfl, bk⟩))
      · omega
    · have e : aRollOf s k = (-1, s) := Prod.ext (if_neg (fun z => c8 ⟨z.1, by have := z.2; omega⟩)) rfl
      refine Ev.iconst dX7_rollOf_11 (Eq.refl 12) ?_
      exact Ev.iret dX7_rollOf_12 rfl ((by rw [e]; exact ⟨_, rfl, rfl, I'⟩))
  · have h8 : isShp 7 := h7
    refine Ev.aload_n dX7_rollOf_0 (Eq.refl 1) rfl ?_
    refine Ev.getR dX7_rollOf_1 (Eq.refl 4) fg_X7_54 rfl rfl hN ?_
    refine Ev.iload_n dX7_rollOf_4 (Eq.refl 5) rfl ?_
    refine Ev.cv1E dX7_rollOf_5 (Eq.refl 8) cw_X7_95 (Nat.le_of_ble_eq_true rfl) (by decide) (lyN0 (by assumption)) rfl rfl (Nat.le_of_ble_eq_true rfl) (c_hasStrand (by assumption) (by assumption) (by omega)) ?_
    refine Ev.if_neB (tgt := 13) dX7_rollOf_8 (Eq.refl 11) (by decide) (fun c8 => ?_) (fun c8 => ?_)
    · have e : aRollOf s k = (-2, s) := Prod.ext ((if_pos ⟨c8.1, by omega⟩).trans (cif_f (by rw [← hV]; exact ha))) rfl
      refine Ev.aload_n dX7_rollOf_13 (Eq.refl 14) rfl ?_
      refine Ev.getR dX7_rollOf_14 (Eq.refl 17) fg_X7_33 rfl rfl (rX7_3 hR) ?_
      refine Ev.aload_n dX7_rollOf_17 (Eq.refl 18) rfl ?_
      refine Ev.getR dX7_rollOf_18 (Eq.refl 21) fg_X7_54 rfl rfl hN ?_
      refine Ev.cv1I dX7_rollOf_21 (Eq.refl 24) cw_X7_144 (Nat.le_of_ble_eq_true rfl) (by decide) (lyS0 (by assumption)) rfl rfl (Nat.le_of_ble_eq_true rfl) (c_find0 hR hn h7 ok ha) (fun x21 g21 hp21 => ?_)
      obtain ⟨rfl, rfl⟩ := hp21
      refine Ev.if_ne (tgt := 30) dX7_rollOf_24 (Eq.refl 27) (by decide) ⟨by omega, by omega⟩ (fun c24 => ?_) (fun c24 => ?_)
      · omega
      · refine Ev.bipush dX7_rollOf_27 (Eq.refl 29) (by decide) ?_
        exact Ev.iret dX7_rollOf_29 rfl ((by rw [e]; exact ⟨_, rfl, rfl, I'⟩))
    · have e : aRollOf s k = (-1, s) := Prod.ext (if_neg (fun z => c8 ⟨z.1, by have := z.2; omega⟩)) rfl
      refine Ev.iconst dX7_rollOf_11 (Eq.refl 12) ?_
      exact Ev.iret dX7_rollOf_12 rfl ((by rw [e]; exact ⟨_, rfl, rfl, I'⟩))
theorem hcnt_of {h : Hp} {n : Nat} {x : Int} (ok : NOk h n) (hx : isHg (cV h n) (fun s => tb (h.1 n 3) s) x) : cnt (fun j => ((x.toNat &&& (h.1 n 1).toNat : Nat) : Int).toNat.testBit j) 14 = hcnt (cV h n) := by
  have hJ := ok.1
  rw [cnt_cut (m := vJ (cV h n)) 14 (by show (h.1 n 0).toNat ≤ 14; omega) (fun s h1 _ => by
    cases e : ((x.toNat &&& (h.1 n 1).toNat : Nat) : Int).toNat.testBit s
    · rfl
    · have := ((hx.2.2 s).mp (tb_and.mp (show tb _ s from e)).1).1
      omega)]
  refine cnt_congr _ (fun s hs => ?_)
  rw [Bool.eq_iff_iff]
  refine Iff.trans ?_ (@decide_eq_true_iff _ (Classical.propDecidable _)).symm
  show tb ((x.toNat &&& (h.1 n 1).toNat : Nat) : Int) s ↔ _
  rw [tb_and, hx.2.2 s, cV_F ok]
  constructor
  · rintro ⟨⟨_, z⟩, w⟩; exact ⟨w, (hg_congr (fun i _ => cV_H ok) _).mp z⟩
  · rintro ⟨w, z⟩; exact ⟨⟨hs, (hg_congr (fun i _ => cV_H ok) _).mpr z⟩, w⟩
theorem p_count {h : Hp} {s : St} {w : Int} (I : CInv h s) (hw : I32 w) : Ev mX7_count 2 0 (entL [.ref 0, iv w] 2) [] h (PA (aCount s w)) := by
  show Ev mX7_count 2 0 [some (.ref 0), some (iv w)] [] h _
  have I' := I
  obtain ⟨hR, ⟨n, d, hnd, hN, hD, ok, hV⟩, hT, hP⟩ := I
  have hn : isNet n := by omega
  obtain ⟨w1, w2⟩ := hw
  have bJ := ok.1
  have eJ := cV_J ok
  have eSt := cV_S ok
  have hF1 := ok.2.1.1
  have hF2 := ok.f1
  have hH := ok.2.2.2.1.1
  have hH2 := ok.f3
  have hg3 : 0 ≤ h.1 n 3 ∧ h.1 n 3 ≤ 2147483647 := ⟨hH, by omega⟩
  have hcF := cnt_free ok
  have hcH := cnt_H ok
  have hh := fun x hx => hcnt_of (x := x) ok hx
  have eR : h.1 n 4 = vR (sV s) := by rw [← hV]; rfl
  have eE : h.1 n 5 = vE (sV s) := by rw [← hV]; rfl
  rw [hV] at eJ eSt hcF hcH
  have kk : h.1 5 2 = (sK s : Int) := by obtain ⟨_, _, _, z, _⟩ := hP; exact z
  have eL : h.1 1 1 = (sL s : Int) := hT.1
  refine Ev.iload_n dX7_count_0 (Eq.refl 1) rfl ?_
  rcases (by omega : (w < 0 ∨ 8 < w) ∨ w = 0 ∨ w = 1 ∨ w = 2 ∨ w = 3 ∨ w = 4 ∨ w = 5 ∨ w = 6 ∨ w = 7 ∨ w = 8) with c1 | c1 | c1 | c1 | c1 | c1 | c1 | c1 | c1 | c1
  · refine Ev.tabOut (tgt := 148) dX7_count_1 ⟨by omega, by omega⟩ (by omega) (by decide) ?_
    refine Ev.iconst dX7_count_148 (Eq.refl 149) ?_
    exact Ev.iret dX7_count_149 rfl (⟨_, rfl, by unfold aCount; rw [if_neg (by omega), if_neg (by omega), if_neg (by omega), if_neg (by omega), if_neg (by omega), if_neg (by omega), if_neg (by omega), if_neg (by omega), if_neg (by omega)], I'⟩)
  · refine Ev.tabIn (tgt := 52) (off := 51) dX7_count_1 ⟨by omega, by omega⟩ (by omega) (by omega) (by rw [c1] <;> rfl) (by decide) ?_
    refine Ev.aload_n dX7_count_52 (Eq.refl 53) rfl ?_
    refine Ev.getR dX7_count_53 (Eq.refl 56) fg_X7_54 rfl rfl hN ?_
    refine Ev.getI dX7_count_56 (Eq.refl 59) fg_X7_89 (lyN0 (by assumption)) rfl ?_
    exact Ev.iret dX7_count_59 rfl (⟨_, rfl, by unfold aCount; rw [eJ, if_pos c1], I'⟩)
  · refine Ev.tabIn (tgt := 60) (off := 59) dX7_count_1 ⟨by omega, by omega⟩ (by omega) (by omega) (by rw [c1] <;> rfl) (by decide) ?_
    refine Ev.aload_n dX7_count_60 (Eq.refl 61) rfl ?_
    refine Ev.getR dX7_count_61 (Eq.refl 64) fg_X7_54 rfl rfl hN ?_
    refine Ev.getI dX7_count_64 (Eq.refl 67) fg_X7_253 (lyN0 (by assumption)) rfl ?_
    refine Ev.cs1E dX7_count_67 (Eq.refl 70) cw_X7_134 (Nat.le_of_ble_eq_true rfl) (by decide) rfl (Nat.le_of_ble_eq_true rfl) (c_bitCount hF1 (by omega)) ?_
    exact Ev.iret dX7_count_70 rfl (⟨_, rfl, by unfold aCount; rw [hcF, if_neg (by omega), if_pos c1], I'⟩)
  · refine Ev.tabIn (tgt := 71) (off := 70) dX7_count_1 ⟨by omega, by omega⟩ (by omega) (by omega) (by rw [c1] <;> rfl) (by decide) ?_
    refine Ev.aload_n dX7_count_71 (Eq.refl 72) rfl ?_
    refine Ev.getR dX7_count_72 (Eq.refl 75) fg_X7_54 rfl rfl hN ?_
    refine Ev.getI dX7_count_75 (Eq.refl 78) fg_X7_234 (lyN0 (by assumption)) rfl ?_
    exact Ev.iret dX7_count_78 rfl (⟨_, rfl, by unfold aCount; rw [eSt, if_neg (by omega), if_neg (by omega), if_pos c1], I'⟩)
  · refine Ev.tabIn (tgt := 79) (off := 78) dX7_count_1 ⟨by omega, by omega⟩ (by omega) (by omega) (by rw [c1] <;> rfl) (by decide) ?_
    refine Ev.aload_n dX7_count_79 (Eq.refl 80) rfl ?_
    refine Ev.getR dX7_count_80 (Eq.refl 83) fg_X7_54 rfl rfl hN ?_
    refine Ev.getI dX7_count_83 (Eq.refl 86) fg_X7_131 (lyN0 (by assumption)) rfl ?_
    refine Ev.cs1E dX7_count_86 (Eq.refl 89) cw_X7_134 (Nat.le_of_ble_eq_true rfl) (by decide) rfl (Nat.le_of_ble_eq_true rfl) (c_bitCount hH hH2) ?_
    exact Ev.iret dX7_count_89 rfl (⟨_, rfl, by unfold aCount; rw [hcH, if_neg (by omega), if_neg (by omega), if_neg (by omega), if_pos c1], I'⟩)
  · refine Ev.tabIn (tgt := 90) (off := 89) dX7_count_1 ⟨by omega, by omega⟩ (by omega) (by omega) (by rw [c1] <;> rfl) (by decide) ?_
    refine Ev.aload_n dX7_count_90 (Eq.refl 91) rfl ?_
    refine Ev.getR dX7_count_91 (Eq.refl 94) fg_X7_54 rfl rfl hN ?_
    refine Ev.aload_n dX7_count_94 (Eq.refl 95) rfl ?_
    refine Ev.getR dX7_count_95 (Eq.refl 98) fg_X7_54 rfl rfl hN ?_
    refine Ev.getI dX7_count_98 (Eq.refl 101) fg_X7_131 (lyN0 (by assumption)) rfl ?_
    refine Ev.cv1I dX7_count_101 (Eq.refl 104) cw_X7_161 (Nat.le_of_ble_eq_true rfl) (by decide) (lyN0 (by assumption)) rfl rfl (Nat.le_of_ble_eq_true rfl) (c_hungJoints hR (by assumption) (by assumption) (by assumption)) (fun x101 g101 hp101 => ?_)
    obtain ⟨rfl, hx⟩ := hp101
    have hx0 := hx.1
    have hx1 := hx.2.1
    have hc := hh _ hx
    rw [hV] at hc
    have an : x101.toNat &&& (g101.1 n 1).toNat ≤ x101.toNat := Nat.and_le_left
    refine Ev.aload_n dX7_count_104 (Eq.refl 105) rfl ?_
    refine Ev.getR dX7_count_105 (Eq.refl 108) fg_X7_54 rfl rfl hN ?_
    refine Ev.getI dX7_count_108 (Eq.refl 111) fg_X7_253 (lyN0 (by assumption)) rfl ?_
    refine Ev.iand dX7_count_111 (Eq.refl 112) (b_and (by first | exact Int.natCast_nonneg _ | exact shl0 | omega) (by first | exact Int.natCast_nonneg _ | exact shl0 | omega)) ?_
    refine Ev.cs1E dX7_count_112 (Eq.refl 115) cw_X7_134 (Nat.le_of_ble_eq_true rfl) (by decide) rfl (Nat.le_of_ble_eq_true rfl) (c_bitCount (Int.natCast_nonneg _) (by omega)) ?_
    exact Ev.iret dX7_count_115 rfl (⟨_, rfl, by unfold aCount; rw [hc, if_neg (by omega), if_neg (by omega), if_neg (by omega), if_neg (by omega), if_pos c1], I'⟩)
  · refine Ev.tabIn (tgt := 116) (off := 115) dX7_count_1 ⟨by omega, by omega⟩ (by omega) (by omega) (by rw [c1] <;> rfl) (by decide) ?_
    refine Ev.aload_n dX7_count_116 (Eq.refl 117) rfl ?_
    refine Ev.getR dX7_count_117 (Eq.refl 120) fg_X7_26 rfl rfl (rX7_2 hR) ?_
    refine Ev.getI dX7_count_120 (Eq.refl 123) fg_X7_92 rfl rfl ?_
    exact Ev.iret dX7_count_123 rfl (⟨_, rfl, by unfold aCount; rw [kk, if_neg (by omega), if_neg (by omega), if_neg (by omega), if_neg (by omega), if_neg (by omega), if_pos c1], I'⟩)
  · refine Ev.tabIn (tgt := 124) (off := 123) dX7_count_1 ⟨by omega, by omega⟩ (by omega) (by omega) (by rw [c1] <;> rfl) (by decide) ?_
    refine Ev.aload_n dX7_count_124 (Eq.refl 125) rfl ?_
    refine Ev.getR dX7_count_125 (Eq.refl 128) fg_X7_10 rfl rfl (rX7_0 hR) ?_
    refine Ev.getI dX7_count_128 (Eq.refl 131) fg_X7_81 rfl rfl ?_
    exact Ev.iret dX7_count_131 rfl (⟨_, rfl, by unfold aCount; rw [eL, if_neg (by omega), if_neg (by omega), if_neg (by omega), if_neg (by omega), if_neg (by omega), if_neg (by omega), if_pos c1], I'⟩)
  · refine Ev.tabIn (tgt := 132) (off := 131) dX7_count_1 ⟨by omega, by omega⟩ (by omega) (by omega) (by rw [c1] <;> rfl) (by decide) ?_
    refine Ev.aload_n dX7_count_132 (Eq.refl 133) rfl ?_
    refine Ev.getR dX7_count_133 (Eq.refl 136) fg_X7_54 rfl rfl hN ?_
    refine Ev.getI dX7_count_136 (Eq.refl 139) fg_X7_256 (lyN0 (by assumption)) rfl ?_
    exact Ev.iret dX7_count_139 rfl (⟨_, rfl, by unfold aCount; rw [eR, if_neg (by omega), if_neg (by omega), if_neg (by omega), if_neg (by omega), if_neg (by omega), if_neg (by omega), if_neg (by omega), if_pos c1], I'⟩)
  · refine Ev.tabIn (tgt := 140) (off := 139) dX7_count_1 ⟨by omega, by omega⟩ (by omega) (by omega) (by rw [c1] <;> rfl) (by decide) ?_
    refine Ev.aload_n dX7_count_140 (Eq.refl 141) rfl ?_
    refine Ev.getR dX7_count_141 (Eq.refl 144) fg_X7_54 rfl rfl hN ?_
    refine Ev.getI dX7_count_144 (Eq.refl 147) fg_X7_259 (lyN0 (by assumption)) rfl ?_
    exact Ev.iret dX7_count_147 rfl (⟨_, rfl, by unfold aCount; rw [eE, if_neg (by omega), if_neg (by omega), if_neg (by omega), if_neg (by omega), if_neg (by omega), if_neg (by omega), if_neg (by omega), if_neg (by omega), if_pos c1], I'⟩)
