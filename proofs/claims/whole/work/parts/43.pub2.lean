/-! The class's calls: told anew. -/
theorem CInv.ch {h g H : Hp} {s : St} {n d : Nat} {v' : Nv} (hR : ROk h.2.2) (hnd : n = 24 ∧ d = 31 ∨ n = 31 ∧ d = 24) (hN : h.2.2 0 6 = n) (hD : h.2.2 0 7 = d) (hT : TX h (sT s) (sL s)) (hF : Fr inPs h g) (hp : PastOk g (if sK s < 6 then sK s + 1 else 6) (fun t => if t = 0 then sV s else sP s (t - 1))) (hF2 : Fr (inN n) g H) (hV : cV H n = v' ∧ NOk H n) : CInv H (psh s v') := by
  refine ⟨hF2.R (hF.R hR), ⟨n, d, hnd, by rw [hF2.2.2, hF.2.2]; exact hN, by rw [hF2.2.2, hF.2.2]; exact hD, hV.2, hV.1⟩, (hT.fr hF ?_ ?_).fr hF2 ?_ ?_, hp.fr hF2 ?_⟩
  · unfold inPs; omega
  · unfold inPs; omega
  · unfold inN; omega
  · unfold inN; omega
  · intro i z; unfold inN at z; omega
theorem c_isAxis {h : Hp} {a : Int} (ha : I32 a) : Ev mX7_isAxis 1 0 (entL [iv a] 1) [] h (PE (bi (0 ≤ a ∧ a ≤ 2)) h) := by
  show Ev mX7_isAxis 1 0 [some (iv a)] [] h _
  have i1 : I32 0 := ⟨by omega, by omega⟩
  have i2 : I32 2 := ⟨by omega, by omega⟩
  refine Ev.iload_n dX7_isAxis_0 (Eq.refl 1) rfl ?_
  refine Ev.iconst dX7_isAxis_1 (Eq.refl 2) ?_
  refine Ev.iconst dX7_isAxis_2 (Eq.refl 3) ?_
  refine Ev.cs3E dX7_isAxis_3 (Eq.refl 6) cw_X7_85 (Nat.le_of_ble_eq_true rfl) (by decide) rfl (Nat.le_of_ble_eq_true rfl) (c_isWithin (by assumption) (by assumption) (by assumption)) ?_
  exact Ev.zret dX7_isAxis_6 rfl (by first | exact bi01 _ | exact Or.inl rfl | exact Or.inr rfl | omega) (PE.mk)
theorem c_isFixed {h : Hp} {n : Nat} {j : Int} (hN : h.2.2 0 6 = n) (hn : isNet n) (ok : NOk h n) (hj : I32 j) : Ev mX7_isFixedJoint 2 0 (entL [.ref 0, iv j] 2) [] h (PE (bi (isJ (cV h n) j ∧ vF (cV h n) j.toNat = false)) h) := by
  show Ev mX7_isFixedJoint 2 0 [some (.ref 0), some (iv j)] [] h _
  have bJ := ok.1
  have eJ := cV_J ok
  have hF1 := ok.2.1.1
  have hF2 := ok.f1
  have hf := cV_F (j := j.toNat) ok
  refine Ev.aload_n dX7_isFixedJoint_0 (Eq.refl 1) rfl ?_
  refine Ev.getR dX7_isFixedJoint_1 (Eq.refl 4) fg_X7_54 rfl rfl hN ?_
  refine Ev.iload_n dX7_isFixedJoint_4 (Eq.refl 5) rfl ?_
  refine Ev.cv1E dX7_isFixedJoint_5 (Eq.refl 8) cw_X7_110 (Nat.le_of_ble_eq_true rfl) (by decide) (lyN0 (by assumption)) rfl rfl (Nat.le_of_ble_eq_true rfl) (c_hasJoint (by assumption) (by assumption) (by omega)) ?_
  refine Ev.if_eqB (tgt := 26) dX7_isFixedJoint_8 (Eq.refl 11) (by decide) (fun c8 => ?_) (fun c8 => ?_)
  · have q : ¬ (isJ (cV h n) j ∧ vF (cV h n) j.toNat = false) := fun z => c8 ⟨z.1.1, by have := z.1.2; omega⟩
    refine Ev.iconst dX7_isFixedJoint_26 (Eq.refl 27) ?_
    exact Ev.zret dX7_isFixedJoint_27 rfl (by first | exact bi01 _ | exact Or.inl rfl | exact Or.inr rfl | omega) (PE.of (by first | exact (bi_f q).symm | exact (bi_t q).symm))
  · refine Ev.aload_n dX7_isFixedJoint_11 (Eq.refl 12) rfl ?_
    refine Ev.getR dX7_isFixedJoint_12 (Eq.refl 15) fg_X7_54 rfl rfl hN ?_
    refine Ev.iload_n dX7_isFixedJoint_15 (Eq.refl 16) rfl ?_
    refine Ev.cv1E dX7_isFixedJoint_16 (Eq.refl 19) cw_X7_113 (Nat.le_of_ble_eq_true rfl) (by decide) (lyN0 (by assumption)) rfl rfl (Nat.le_of_ble_eq_true rfl) (c_isFree (by assumption) (by omega) (by omega)) ?_
    refine Ev.if_neB (tgt := 26) dX7_isFixedJoint_19 (Eq.refl 22) (by decide) (fun c19 => ?_) (fun c19 => ?_)
    · have q : ¬ (isJ (cV h n) j ∧ vF (cV h n) j.toNat = false) := fun z => by rw [hf.mp c19] at z; exact absurd z.2 (by decide)
      refine Ev.iconst dX7_isFixedJoint_26 (Eq.refl 27) ?_
      exact Ev.zret dX7_isFixedJoint_27 rfl (by first | exact bi01 _ | exact Or.inl rfl | exact Or.inr rfl | omega) (PE.of (by first | exact (bi_f q).symm | exact (bi_t q).symm))
    · have q : isJ (cV h n) j ∧ vF (cV h n) j.toNat = false := ⟨⟨c8.1, by omega⟩, by cases e : vF (cV h n) j.toNat with | false => rfl | true => exact absurd (hf.mpr e) c19⟩
      refine Ev.iconst dX7_isFixedJoint_22 (Eq.refl 23) ?_
      refine Ev.goto' (pc' := 27) dX7_isFixedJoint_23 (by decide) ?_
      exact Ev.zret dX7_isFixedJoint_27 rfl (by first | exact bi01 _ | exact Or.inl rfl | exact Or.inr rfl | omega) (PE.of (by first | exact (bi_f q).symm | exact (bi_t q).symm))
theorem Fr_w1 {h : Hp} {n i k : Nat} {x : Int} (hi : inN n i) : Fr (inN n) h (hI h i k x) := Fr.rf.wI hi
theorem p_density {h : Hp} {s : St} {k q : Int} (I : CInv h s) (hk : I32 k) (hq : I32 q) : Ev mX7_density 3 0 (entL [.ref 0, iv k, iv q] 4) [] h (PA (aDens s k q)) := by
  show Ev mX7_density 3 0 [some (.ref 0), some (iv k), some (iv q), none] [] h _
  have I' := I
  obtain ⟨hR, ⟨n, d, hnd, hN, hD, ok, hV⟩, hT, hP⟩ := I
  have hn : isNet n := by omega
  have hn2 : n < 45 := by omega
  have i1 : I32 1 := ⟨by omega, by omega⟩
  have i5 : I32 5 := ⟨by omega, by omega⟩
  have bS := ok.2.2.1
  have eSt := cV_S ok
  have hQb := ok.2.2.2.2.2.2.2.2.1
  rw [hV] at eSt hQb
  refine Ev.aload_n dX7_density_0 (Eq.refl 1) rfl ?_
  refine Ev.getR dX7_density_1 (Eq.refl 4) fg_X7_54 rfl rfl hN ?_
  refine Ev.iload_n dX7_density_4 (Eq.refl 5) rfl ?_
  refine Ev.cv1E dX7_density_5 (Eq.refl 8) cw_X7_95 (Nat.le_of_ble_eq_true rfl) (by decide) (lyN0 (by assumption)) rfl rfl (Nat.le_of_ble_eq_true rfl) (c_hasStrand (by assumption) (by assumption) (by omega)) ?_
  refine Ev.if_eqB (tgt := 20) dX7_density_8 (Eq.refl 11) (by decide) (fun c8 => ?_) (fun c8 => ?_)
  · have e : aDens s k q = (-1, s) := if_neg (fun z => c8 ⟨z.1.1, by have := z.1.2; omega⟩)
    refine Ev.iconst dX7_density_20 (Eq.refl 21) ?_
    exact Ev.iret dX7_density_21 rfl ((by rw [e]; exact ⟨_, rfl, rfl, I'⟩))
  · refine Ev.iload_n dX7_density_11 (Eq.refl 12) rfl ?_
    refine Ev.iconst dX7_density_12 (Eq.refl 13) ?_
    refine Ev.iconst dX7_density_13 (Eq.refl 14) ?_
    refine Ev.cs3E dX7_density_14 (Eq.refl 17) cw_X7_85 (Nat.le_of_ble_eq_true rfl) (by decide) rfl (Nat.le_of_ble_eq_true rfl) (c_isWithin (by assumption) (by assumption) (by assumption)) ?_
    refine Ev.if_neB (tgt := 22) dX7_density_17 (Eq.refl 20) (by decide) (fun c17 => ?_) (fun c17 => ?_)
    · have kS : isS (sV s) k := ⟨c8.1, by omega⟩
      have eQ : h.1 (n + 5) k.toNat = vQ (sV s) k.toNat := by rw [← hV]; exact cV_Q (by omega)
      have qb := hQb k.toNat (by omega)
      refine Ev.aload_n dX7_density_22 (Eq.refl 23) rfl ?_
      refine Ev.getR dX7_density_23 (Eq.refl 26) fg_X7_54 rfl rfl hN ?_
      refine Ev.getR dX7_density_26 (Eq.refl 29) fg_X7_99 (lyN0 (by assumption)) rfl (rN10 hR (by assumption)) ?_
      refine Ev.iload_n dX7_density_29 (Eq.refl 30) rfl ?_
      refine Ev.iaload dX7_density_30 (Eq.refl 31) (lyN5 (by assumption)) rfl (by omega) (by decide) (by first | with_reducible exact Int.toNat_natCast _ | exact Eq.refl _) ?_
      rw [eQ]
      refine Ev.is3 dX7_density_31 (Eq.refl 32) (by decide) rfl ?_
      refine Ev.iload_n dX7_density_32 (Eq.refl 33) rfl ?_
      refine Ev.iload_n dX7_density_33 (Eq.refl 34) rfl ?_
      refine Ev.icmp_ne (tgt := 40) dX7_density_34 (Eq.refl 37) (by decide) ⟨by omega, by omega⟩ ⟨by omega, by omega⟩ (fun c34 => ?_) (fun c34 => ?_)
      · have e : aDens s k q = (vQ (sV s) k.toNat, psh s (vQ1 (sV s) k.toNat q)) := (if_pos ⟨kS, c17⟩).trans (if_neg c34)
        refine Ev.aload_n dX7_density_40 (Eq.refl 41) rfl ?_
        refine Ev.getR dX7_density_41 (Eq.refl 44) fg_X7_26 rfl rfl (rX7_2 hR) ?_
        refine Ev.aload_n dX7_density_44 (Eq.refl 45) rfl ?_
        refine Ev.getR dX7_density_45 (Eq.refl 48) fg_X7_54 rfl rfl hN ?_
        refine Ev.cv1V dX7_density_48 (Eq.refl 51) cw_X7_103 (Nat.le_of_ble_eq_true rfl) (by decide) rfl rfl rfl (Nat.le_of_ble_eq_true rfl) (c_keep hR (by assumption) (by assumption) (by assumption) (by assumption)) (fun g48 hp48 => ?_)
        obtain ⟨hF, hp⟩ := hp48
        rw [hV] at hp
        have hR2 := hF.R hR
        have hN2 : g48.2.2 0 6 = n := by rw [hF.2.2]; exact hN
        have sm' := hF.same (n := n) (fun i h1 h2 => by unfold inPs; omega)
        have okg := sm'.ok ok
        have evg : cV g48 n = sV s := sm'.V.trans hV
        have hR := hR2
        have ch := cQ1_VN (k := k.toNat) (x := q) okg (by rw [evg]; omega) c17
        rw [evg] at ch
        refine Ev.aload_n dX7_density_51 (Eq.refl 52) rfl ?_
        refine Ev.getR dX7_density_52 (Eq.refl 55) fg_X7_54 rfl rfl hN2 ?_
        refine Ev.getR dX7_density_55 (Eq.refl 58) fg_X7_99 (lyN0 (by assumption)) rfl (rN10 hR (by assumption)) ?_
        refine Ev.iload_n dX7_density_58 (Eq.refl 59) rfl ?_
        refine Ev.iload_n dX7_density_59 (Eq.refl 60) rfl ?_
        refine Ev.iastore dX7_density_60 (Eq.refl 61) (lyN5 (by assumption)) rfl (by omega) (by decide) (by first | with_reducible exact Int.toNat_natCast _ | exact Eq.refl _) ?_
        refine Ev.iload_n dX7_density_61 (Eq.refl 62) rfl ?_
        exact Ev.iret dX7_density_62 rfl ((by rw [e]; exact ⟨_, rfl, rfl, CInv.ch (h := h) (g := g48) (by assumption) hnd hN hD hT hF hp (Fr_w1 ⟨by omega, by omega⟩) ch⟩))
      · have e : aDens s k q = (-2, s) := (if_pos ⟨kS, c17⟩).trans (if_pos c34)
        refine Ev.bipush dX7_density_37 (Eq.refl 39) (by decide) ?_
        exact Ev.iret dX7_density_39 rfl ((by rw [e]; exact ⟨_, rfl, rfl, I'⟩))
    · have e : aDens s k q = (-1, s) := if_neg (fun z => c17 z.2)
      refine Ev.iconst dX7_density_20 (Eq.refl 21) ?_
      exact Ev.iret dX7_density_21 rfl ((by rw [e]; exact ⟨_, rfl, rfl, I'⟩))
theorem p_want {h : Hp} {s : St} {k q : Int} (I : CInv h s) (hk : I32 k) (hq : I32 q) : Ev mX7_want 3 0 (entL [.ref 0, iv k, iv q] 4) [] h (PA (aWant s k q)) := by
  show Ev mX7_want 3 0 [some (.ref 0), some (iv k), some (iv q), none] [] h _
  have I' := I
  obtain ⟨hR, ⟨n, d, hnd, hN, hD, ok, hV⟩, hT, hP⟩ := I
  have hn : isNet n := by omega
  have hn2 : n < 45 := by omega
  have i1 : I32 0 := ⟨by omega, by omega⟩
  have i5 : I32 99 := ⟨by omega, by omega⟩
  have bS := ok.2.2.1
  have eSt := cV_S ok
  have hQb := ok.2.2.2.2.2.2.2.2.1
  rw [hV] at eSt hQb
  refine Ev.aload_n dX7_want_0 (Eq.refl 1) rfl ?_
  refine Ev.getR dX7_want_1 (Eq.refl 4) fg_X7_54 rfl rfl hN ?_
  refine Ev.iload_n dX7_want_4 (Eq.refl 5) rfl ?_
  refine Ev.cv1E dX7_want_5 (Eq.refl 8) cw_X7_95 (Nat.le_of_ble_eq_true rfl) (by decide) (lyN0 (by assumption)) rfl rfl (Nat.le_of_ble_eq_true rfl) (c_hasStrand (by assumption) (by assumption) (by omega)) ?_
  refine Ev.if_eqB (tgt := 21) dX7_want_8 (Eq.refl 11) (by decide) (fun c8 => ?_) (fun c8 => ?_)
  · have e : aWant s k q = (-1, s) := if_neg (fun z => c8 ⟨z.1.1, by have := z.1.2; omega⟩)
    refine Ev.iconst dX7_want_21 (Eq.refl 22) ?_
    exact Ev.iret dX7_want_22 rfl ((by rw [e]; exact ⟨_, rfl, rfl, I'⟩))
  · refine Ev.iload_n dX7_want_11 (Eq.refl 12) rfl ?_
    refine Ev.iconst dX7_want_12 (Eq.refl 13) ?_
    refine Ev.bipush dX7_want_13 (Eq.refl 15) (by decide) ?_
    refine Ev.cs3E dX7_want_15 (Eq.refl 18) cw_X7_85 (Nat.le_of_ble_eq_true rfl) (by decide) rfl (Nat.le_of_ble_eq_true rfl) (c_isWithin (by assumption) (by assumption) (by assumption)) ?_
    refine Ev.if_neB (tgt := 23) dX7_want_18 (Eq.refl 21) (by decide) (fun c18 => ?_) (fun c18 => ?_)
    · have kS : isS (sV s) k := ⟨c8.1, by omega⟩
      have eQ : h.1 (n + 6) k.toNat = vW (sV s) k.toNat := by rw [← hV]; exact cV_W (by omega)
      have qb := hQb k.toNat (by omega)
      refine Ev.aload_n dX7_want_23 (Eq.refl 24) rfl ?_
      refine Ev.getR dX7_want_24 (Eq.refl 27) fg_X7_54 rfl rfl hN ?_
      refine Ev.getR dX7_want_27 (Eq.refl 30) fg_X7_107 (lyN0 (by assumption)) rfl (rN11 hR (by assumption)) ?_
      refine Ev.iload_n dX7_want_30 (Eq.refl 31) rfl ?_
      refine Ev.iaload dX7_want_31 (Eq.refl 32) (lyN6 (by assumption)) rfl (by omega) (by decide) (by first | with_reducible exact Int.toNat_natCast _ | exact Eq.refl _) ?_
      rw [eQ]
      refine Ev.is3 dX7_want_32 (Eq.refl 33) (by decide) rfl ?_
      refine Ev.iload_n dX7_want_33 (Eq.refl 34) rfl ?_
      refine Ev.iload_n dX7_want_34 (Eq.refl 35) rfl ?_
      refine Ev.icmp_ne (tgt := 41) dX7_want_35 (Eq.refl 38) (by decide) ⟨by omega, by omega⟩ ⟨by omega, by omega⟩ (fun c35 => ?_) (fun c35 => ?_)
      · have e : aWant s k q = (vW (sV s) k.toNat, psh s (vW1 (sV s) k.toNat q)) := (if_pos ⟨kS, c18⟩).trans (if_neg c35)
        refine Ev.aload_n dX7_want_41 (Eq.refl 42) rfl ?_
        refine Ev.getR dX7_want_42 (Eq.refl 45) fg_X7_26 rfl rfl (rX7_2 hR) ?_
        refine Ev.aload_n dX7_want_45 (Eq.refl 46) rfl ?_
        refine Ev.getR dX7_want_46 (Eq.refl 49) fg_X7_54 rfl rfl hN ?_
        refine Ev.cv1V dX7_want_49 (Eq.refl 52) cw_X7_103 (Nat.le_of_ble_eq_true rfl) (by decide) rfl rfl rfl (Nat.le_of_ble_eq_true rfl) (c_keep hR (by assumption) (by assumption) (by assumption) (by assumption)) (fun g49 hp49 => ?_)
        obtain ⟨hF, hp⟩ := hp49
        rw [hV] at hp
        have hR2 := hF.R hR
        have hN2 : g49.2.2 0 6 = n := by rw [hF.2.2]; exact hN
        have sm' := hF.same (n := n) (fun i h1 h2 => by unfold inPs; omega)
        have okg := sm'.ok ok
        have evg : cV g49 n = sV s := sm'.V.trans hV
        have hR := hR2
        have ch := cW1_VN (k := k.toNat) (x := q) okg (by rw [evg]; omega) c18
        rw [evg] at ch
        refine Ev.aload_n dX7_want_52 (Eq.refl 53) rfl ?_
        refine Ev.getR dX7_want_53 (Eq.refl 56) fg_X7_54 rfl rfl hN2 ?_
        refine Ev.getR dX7_want_56 (Eq.refl 59) fg_X7_107 (lyN0 (by assumption)) rfl (rN11 hR (by assumption)) ?_
        refine Ev.iload_n dX7_want_59 (Eq.refl 60) rfl ?_
        refine Ev.iload_n dX7_want_60 (Eq.refl 61) rfl ?_
        refine Ev.iastore dX7_want_61 (Eq.refl 62) (lyN6 (by assumption)) rfl (by omega) (by decide) (by first | with_reducible exact Int.toNat_natCast _ | exact Eq.refl _) ?_
        refine Ev.iload_n dX7_want_62 (Eq.refl 63) rfl ?_
        exact Ev.iret dX7_want_63 rfl ((by rw [e]; exact ⟨_, rfl, rfl, CInv.ch (h := h) (g := g49) (by assumption) hnd hN hD hT hF hp (Fr_w1 ⟨by omega, by omega⟩) ch⟩))
      · have e : aWant s k q = (-2, s) := (if_pos ⟨kS, c18⟩).trans (if_pos c35)
        refine Ev.bipush dX7_want_38 (Eq.refl 40) (by decide) ?_
        exact Ev.iret dX7_want_40 rfl ((by rw [e]; exact ⟨_, rfl, rfl, I'⟩))
    · have e : aWant s k q = (-1, s) := if_neg (fun z => c18 z.2)
      refine Ev.iconst dX7_want_21 (Eq.refl 22) ?_
      exact Ev.iret dX7_want_22 rfl ((by rw [e]; exact ⟨_, rfl, rfl, I'⟩))
theorem p_load {h : Hp} {s : St} {k q : Int} (I : CInv h s) (hk : I32 k) (hq : I32 q) : Ev mX7_load 3 0 (entL [.ref 0, iv k, iv q] 4) [] h (PA (aLoad s k q)) := by
  show Ev mX7_load 3 0 [some (.ref 0), some (iv k), some (iv q), none] [] h _
  have I' := I
  obtain ⟨hR, ⟨n, d, hnd, hN, hD, ok, hV⟩, hT, hP⟩ := I
  have hn : isNet n := by omega
  have hn2 : n < 45 := by omega
  have i1 : I32 (-9) := ⟨by omega, by omega⟩
  have i5 : I32 9 := ⟨by omega, by omega⟩
  have bJ := ok.1
  have eJ := cV_J ok
  have hF1 := ok.2.1.1
  have hF2 := ok.f1
  have hf := cV_F (j := k.toNat) ok
  have hQb := ok.2.2.2.2.2.2.2.2.2.1
  rw [hV] at eJ hQb hf
  refine Ev.aload_n dX7_load_0 (Eq.refl 1) rfl ?_
  refine Ev.getR dX7_load_1 (Eq.refl 4) fg_X7_54 rfl rfl hN ?_
  refine Ev.iload_n dX7_load_4 (Eq.refl 5) rfl ?_
  refine Ev.cv1E dX7_load_5 (Eq.refl 8) cw_X7_110 (Nat.le_of_ble_eq_true rfl) (by decide) (lyN0 (by assumption)) rfl rfl (Nat.le_of_ble_eq_true rfl) (c_hasJoint (by assumption) (by assumption) (by omega)) ?_
  refine Ev.if_eqB (tgt := 33) dX7_load_8 (Eq.refl 11) (by decide) (fun c8 => ?_) (fun c8 => ?_)
  · have e : aLoad s k q = (-1, s) := if_neg (fun z => c8 ⟨z.1.1, by have := z.1.2; omega⟩)
    refine Ev.iconst dX7_load_33 (Eq.refl 34) ?_
    exact Ev.iret dX7_load_34 rfl ((by rw [e]; exact ⟨_, rfl, rfl, I'⟩))
  · refine Ev.aload_n dX7_load_11 (Eq.refl 12) rfl ?_
    refine Ev.getR dX7_load_12 (Eq.refl 15) fg_X7_54 rfl rfl hN ?_
    refine Ev.iload_n dX7_load_15 (Eq.refl 16) rfl ?_
    refine Ev.cv1E dX7_load_16 (Eq.refl 19) cw_X7_113 (Nat.le_of_ble_eq_true rfl) (by decide) (lyN0 (by assumption)) rfl rfl (Nat.le_of_ble_eq_true rfl) (c_isFree (by assumption) (by omega) (by omega)) ?_
    refine Ev.if_eqB (tgt := 33) dX7_load_19 (Eq.refl 22) (by decide) (fun c19 => ?_) (fun c19 => ?_)
    · have e : aLoad s k q = (-1, s) := if_neg (fun z => c19 (hf.mpr z.2.1))
      refine Ev.iconst dX7_load_33 (Eq.refl 34) ?_
      exact Ev.iret dX7_load_34 rfl ((by rw [e]; exact ⟨_, rfl, rfl, I'⟩))
    · refine Ev.iload_n dX7_load_22 (Eq.refl 23) rfl ?_
      refine Ev.bipush dX7_load_23 (Eq.refl 25) (by decide) ?_
      refine Ev.bipush dX7_load_25 (Eq.refl 27) (by decide) ?_
      refine Ev.cs3E dX7_load_27 (Eq.refl 30) cw_X7_85 (Nat.le_of_ble_eq_true rfl) (by decide) rfl (Nat.le_of_ble_eq_true rfl) (c_isWithin (by assumption) (by assumption) (by assumption)) ?_
      refine Ev.if_neB (tgt := 35) dX7_load_30 (Eq.refl 33) (by decide) (fun c30 => ?_) (fun c30 => ?_)
      · have kS : isJ (sV s) k ∧ vF (sV s) k.toNat = true ∧ -9 ≤ q ∧ q ≤ 9 := ⟨⟨c8.1, by omega⟩, hf.mp c19, c30⟩
        have eQ : h.1 (n + 2) k.toNat = vLd (sV s) k.toNat := by rw [← hV]; exact cV_L (by omega)
        have qb := hQb k.toNat (by omega)
        refine Ev.aload_n dX7_load_35 (Eq.refl 36) rfl ?_
        refine Ev.getR dX7_load_36 (Eq.refl 39) fg_X7_54 rfl rfl hN ?_
        refine Ev.getR dX7_load_39 (Eq.refl 42) fg_X7_116 (lyN0 (by assumption)) rfl (rN7 hR (by assumption)) ?_
        refine Ev.iload_n dX7_load_42 (Eq.refl 43) rfl ?_
        refine Ev.iaload dX7_load_43 (Eq.refl 44) (lyN2 (by assumption)) rfl (by omega) (by decide) (by first | with_reducible exact Int.toNat_natCast _ | exact Eq.refl _) ?_
        rw [eQ]
        refine Ev.is3 dX7_load_44 (Eq.refl 45) (by decide) rfl ?_
        refine Ev.iload_n dX7_load_45 (Eq.refl 46) rfl ?_
        refine Ev.iload_n dX7_load_46 (Eq.refl 47) rfl ?_
        refine Ev.icmp_ne (tgt := 53) dX7_load_47 (Eq.refl 50) (by decide) ⟨by omega, by omega⟩ ⟨by omega, by omega⟩ (fun c47 => ?_) (fun c47 => ?_)
        · have e : aLoad s k q = (vLd (sV s) k.toNat + 9, psh s (vL1 (sV s) k.toNat q)) := (if_pos kS).trans (if_neg c47)
          refine Ev.aload_n dX7_load_53 (Eq.refl 54) rfl ?_
          refine Ev.getR dX7_load_54 (Eq.refl 57) fg_X7_26 rfl rfl (rX7_2 hR) ?_
          refine Ev.aload_n dX7_load_57 (Eq.refl 58) rfl ?_
          refine Ev.getR dX7_load_58 (Eq.refl 61) fg_X7_54 rfl rfl hN ?_
          refine Ev.cv1V dX7_load_61 (Eq.refl 64) cw_X7_103 (Nat.le_of_ble_eq_true rfl) (by decide) rfl rfl rfl (Nat.le_of_ble_eq_true rfl) (c_keep hR (by assumption) (by assumption) (by assumption) (by assumption)) (fun g61 hp61 => ?_)
          obtain ⟨hF, hp⟩ := hp61
          rw [hV] at hp
          have hR2 := hF.R hR
          have hN2 : g61.2.2 0 6 = n := by rw [hF.2.2]; exact hN
          have sm' := hF.same (n := n) (fun i h1 h2 => by unfold inPs; omega)
          have okg := sm'.ok ok
          have evg : cV g61 n = sV s := sm'.V.trans hV
          have hR := hR2
          have ch := cL1_VN (k := k.toNat) (x := q) okg (by rw [evg]; omega) c30
          rw [evg] at ch
          refine Ev.aload_n dX7_load_64 (Eq.refl 65) rfl ?_
          refine Ev.getR dX7_load_65 (Eq.refl 68) fg_X7_54 rfl rfl hN2 ?_
          refine Ev.getR dX7_load_68 (Eq.refl 71) fg_X7_116 (lyN0 (by assumption)) rfl (rN7 hR (by assumption)) ?_
          refine Ev.iload_n dX7_load_71 (Eq.refl 72) rfl ?_
          refine Ev.iload_n dX7_load_72 (Eq.refl 73) rfl ?_
          refine Ev.iastore dX7_load_73 (Eq.refl 74) (lyN2 (by assumption)) rfl (by omega) (by decide) (by first | with_reducible exact Int.toNat_natCast _ | exact Eq.refl _) ?_
          refine Ev.iload_n dX7_load_74 (Eq.refl 75) rfl ?_
          refine Ev.bipush dX7_load_75 (Eq.refl 77) (by decide) ?_
          refine Ev.iadd dX7_load_77 (Eq.refl 78) ?_
          exact Ev.iret dX7_load_78 rfl ((by rw [e]; exact ⟨_, rfl, rfl, CInv.ch (h := h) (g := g61) (by assumption) hnd hN hD hT hF hp (Fr_w1 ⟨by omega, by omega⟩) ch⟩))
        · have e : aLoad s k q = (-2, s) := (if_pos kS).trans (if_pos c47)
          refine Ev.bipush dX7_load_50 (Eq.refl 52) (by decide) ?_
          exact Ev.iret dX7_load_52 rfl ((by rw [e]; exact ⟨_, rfl, rfl, I'⟩))
      · have e : aLoad s k q = (-1, s) := if_neg (fun z => c30 z.2.2)
        refine Ev.iconst dX7_load_33 (Eq.refl 34) ?_
        exact Ev.iret dX7_load_34 rfl ((by rw [e]; exact ⟨_, rfl, rfl, I'⟩))
theorem p_move {h : Hp} {s : St} {k a q : Int} (I : CInv h s) (hk : I32 k) (hA : I32 a) (hq : I32 q) : Ev mX7_move 3 0 (entL [.ref 0, iv k, iv a, iv q] 5) [] h (PA (aMove s k a q)) := by
  show Ev mX7_move 3 0 [some (.ref 0), some (iv k), some (iv a), some (iv q), none] [] h _
  have I' := I
  obtain ⟨hR, ⟨n, d, hnd, hN, hD, ok, hV⟩, hT, hP⟩ := I
  have hn : isNet n := by omega
  have hn2 : n < 45 := by omega
  have i1 : I32 0 := ⟨by omega, by omega⟩
  have i5 : I32 60 := ⟨by omega, by omega⟩
  have bJ := ok.1
  have eJ := cV_J ok
  have hpb := ok.2.2.2.2.2.2.2.2.2.2.1 k.toNat a.toNat
  rw [hV] at eJ hpb
  refine Ev.aload_n dX7_move_0 (Eq.refl 1) rfl ?_
  refine Ev.iload_n dX7_move_1 (Eq.refl 2) rfl ?_
  refine Ev.cv1E dX7_move_2 (Eq.refl 5) cw_X7_119 (Nat.le_of_ble_eq_true rfl) (by decide) rfl rfl rfl (Nat.le_of_ble_eq_true rfl) (c_isFixed hN hn ok hk) ?_
  rw [hV]
  refine Ev.if_eqB (tgt := 25) dX7_move_5 (Eq.refl 8) (by decide) (fun c5 => ?_) (fun c5 => ?_)
  · have e : aMove s k a q = (-1, s) := if_neg (fun z => c5 z.1)
    refine Ev.iconst dX7_move_25 (Eq.refl 26) ?_
    exact Ev.iret dX7_move_26 rfl ((by rw [e]; exact ⟨_, rfl, rfl, I'⟩))
  · refine Ev.iload_n dX7_move_8 (Eq.refl 9) rfl ?_
    refine Ev.cs1E dX7_move_9 (Eq.refl 12) cw_X7_122 (Nat.le_of_ble_eq_true rfl) (by decide) rfl (Nat.le_of_ble_eq_true rfl) (c_isAxis (by assumption)) ?_
    refine Ev.if_eqB (tgt := 25) dX7_move_12 (Eq.refl 15) (by decide) (fun c12 => ?_) (fun c12 => ?_)
    · have e : aMove s k a q = (-1, s) := if_neg (fun z => c12 z.2.1)
      refine Ev.iconst dX7_move_25 (Eq.refl 26) ?_
      exact Ev.iret dX7_move_26 rfl ((by rw [e]; exact ⟨_, rfl, rfl, I'⟩))
    · refine Ev.iload_n dX7_move_15 (Eq.refl 16) rfl ?_
      refine Ev.iconst dX7_move_16 (Eq.refl 17) ?_
      refine Ev.bipush dX7_move_17 (Eq.refl 19) (by decide) ?_
      refine Ev.cs3E dX7_move_19 (Eq.refl 22) cw_X7_85 (Nat.le_of_ble_eq_true rfl) (by decide) rfl (Nat.le_of_ble_eq_true rfl) (c_isWithin (by assumption) (by assumption) (by assumption)) ?_
      refine Ev.if_neB (tgt := 27) dX7_move_22 (Eq.refl 25) (by decide) (fun c22 => ?_) (fun c22 => ?_)
      · have kb := c5.1
        have kl : k < (vJ (sV s) : Int) := c5.1.2
        have k0 : 0 ≤ k := c5.1.1
        have eQ : h.1 (n + 1) (k.toNat * 3 + a.toNat) = vP (sV s) k.toNat a.toNat := by rw [← hV]; exact cV_P ok (by omega) (by rw [hV]; exact c5.2) (by omega)
        have q1 : (k * 3 + a).toNat = k.toNat * 3 + a.toNat := by omega
        refine Ev.aload_n dX7_move_27 (Eq.refl 28) rfl ?_
        refine Ev.getR dX7_move_28 (Eq.refl 31) fg_X7_54 rfl rfl hN ?_
        refine Ev.getR dX7_move_31 (Eq.refl 34) fg_X7_125 (lyN0 (by assumption)) rfl (rN6 hR (by assumption)) ?_
        refine Ev.iload_n dX7_move_34 (Eq.refl 35) rfl ?_
        refine Ev.iconst dX7_move_35 (Eq.refl 36) ?_
        refine Ev.imul dX7_move_36 (Eq.refl 37) ?_
        refine Ev.iload_n dX7_move_37 (Eq.refl 38) rfl ?_
        refine Ev.iadd dX7_move_38 (Eq.refl 39) ?_
        refine Ev.iaload dX7_move_39 (Eq.refl 40) (lyN1 (by assumption)) rfl (by omega) (by decide) q1 ?_
        rw [eQ]
        refine Ev.is4 dX7_move_40 (Eq.refl 42) (by decide) rfl ?_
        refine Ev.iload dX7_move_42 (Eq.refl 44) rfl ?_
        refine Ev.iload_n dX7_move_44 (Eq.refl 45) rfl ?_
        refine Ev.icmp_ne (tgt := 51) dX7_move_45 (Eq.refl 48) (by decide) ⟨by omega, by omega⟩ ⟨by omega, by omega⟩ (fun c45 => ?_) (fun c45 => ?_)
        · have e : aMove s k a q = (vP (sV s) k.toNat a.toNat, psh s (vP1 (sV s) k.toNat a.toNat q)) := (if_pos ⟨c5, c12, c22⟩).trans (if_neg c45)
          refine Ev.aload_n dX7_move_51 (Eq.refl 52) rfl ?_
          refine Ev.getR dX7_move_52 (Eq.refl 55) fg_X7_26 rfl rfl (rX7_2 hR) ?_
          refine Ev.aload_n dX7_move_55 (Eq.refl 56) rfl ?_
          refine Ev.getR dX7_move_56 (Eq.refl 59) fg_X7_54 rfl rfl hN ?_
          refine Ev.cv1V dX7_move_59 (Eq.refl 62) cw_X7_103 (Nat.le_of_ble_eq_true rfl) (by decide) rfl rfl rfl (Nat.le_of_ble_eq_true rfl) (c_keep hR (by assumption) (by assumption) (by assumption) (by assumption)) (fun g59 hp59 => ?_)
          obtain ⟨hF, hp⟩ := hp59
          rw [hV] at hp
          have hR2 := hF.R hR
          have hN2 : g59.2.2 0 6 = n := by rw [hF.2.2]; exact hN
          have sm' := hF.same (n := n) (fun i h1 h2 => by unfold inPs; omega)
          have okg := sm'.ok ok
          have evg : cV g59 n = sV s := sm'.V.trans hV
          have hR := hR2
          have ch := cP1_VN (k := k.toNat) (b := a.toNat) (x := q) okg (by rw [evg]; omega) (by rw [evg]; exact c5.2) (by omega) c22
          rw [evg] at ch
          refine Ev.aload_n dX7_move_62 (Eq.refl 63) rfl ?_
          refine Ev.getR dX7_move_63 (Eq.refl 66) fg_X7_54 rfl rfl hN2 ?_
          refine Ev.getR dX7_move_66 (Eq.refl 69) fg_X7_125 (lyN0 (by assumption)) rfl (rN6 hR (by assumption)) ?_
          refine Ev.iload_n dX7_move_69 (Eq.refl 70) rfl ?_
          refine Ev.iconst dX7_move_70 (Eq.refl 71) ?_
          refine Ev.imul dX7_move_71 (Eq.refl 72) ?_
          refine Ev.iload_n dX7_move_72 (Eq.refl 73) rfl ?_
          refine Ev.iadd dX7_move_73 (Eq.refl 74) ?_
          refine Ev.iload_n dX7_move_74 (Eq.refl 75) rfl ?_
          refine Ev.iastore dX7_move_75 (Eq.refl 76) (lyN1 (by assumption)) rfl (by omega) (by decide) q1 ?_
          refine Ev.iload dX7_move_76 (Eq.refl 78) rfl ?_
          exact Ev.iret dX7_move_78 rfl ((by rw [e]; exact ⟨_, rfl, rfl, CInv.ch (h := h) (g := g59) (by assumption) hnd hN hD hT hF hp (Fr_w1 ⟨by omega, by omega⟩) ch⟩))
        · have e : aMove s k a q = (-2, s) := (if_pos ⟨c5, c12, c22⟩).trans (if_pos c45)
          refine Ev.bipush dX7_move_48 (Eq.refl 50) (by decide) ?_
          exact Ev.iret dX7_move_50 rfl ((by rw [e]; exact ⟨_, rfl, rfl, I'⟩))
      · have e : aMove s k a q = (-1, s) := if_neg (fun z => c22 z.2.2)
        refine Ev.iconst dX7_move_25 (Eq.refl 26) ?_
        exact Ev.iret dX7_move_26 rfl ((by rw [e]; exact ⟨_, rfl, rfl, I'⟩))
theorem cnt_H {h : Hp} {n : Nat} (ok : NOk h n) : cnt (fun s => (h.1 n 3).toNat.testBit s) 14 = cnt (vH (cV h n)) (vS (cV h n)) := by
  have hS := ok.2.2.1
  rw [cnt_cut (m := vS (cV h n)) 14 (by show (h.1 n 2).toNat ≤ 14; omega) (fun s h1 _ => by
    cases e : (h.1 n 3).toNat.testBit s
    · rfl
    · exact absurd e (tb_lt ok.2.2.2.1.2 h1 ok.2.2.2.1.1))]
  exact cnt_congr _ (fun s _ => by
    rw [Bool.eq_iff_iff]
    exact cV_H ok)
theorem p_down {h : Hp} {s : St} {k i : Int} (I : CInv h s) (hk : I32 k) (hi : I32 i) : Ev mX7_down 3 0 (entL [.ref 0, iv k, iv i] 3) [] h (PA (aDown s k i)) := by
  show Ev mX7_down 3 0 [some (.ref 0), some (iv k), some (iv i)] [] h _
  have I' := I
  obtain ⟨hR, ⟨n, d, hnd, hN, hD, ok, hV⟩, hT, hP⟩ := I
  have hn : isNet n := by omega
  have hn2 : n < 45 := by omega
  have i1 : I32 0 := ⟨by omega, by omega⟩
  have i5 : I32 1 := ⟨by omega, by omega⟩
  have bS := ok.2.2.1
  have eSt := cV_S ok
  have hH := ok.2.2.2.1.1
  have hH2 := ok.f3
  have hhg := cV_H (s := k.toNat) ok
  rw [hV] at eSt hhg
  have b01 := bi01 (tb (h.1 n 3) k.toNat)
  refine Ev.aload_n dX7_down_0 (Eq.refl 1) rfl ?_
  refine Ev.getR dX7_down_1 (Eq.refl 4) fg_X7_54 rfl rfl hN ?_
  refine Ev.iload_n dX7_down_4 (Eq.refl 5) rfl ?_
  refine Ev.cv1E dX7_down_5 (Eq.refl 8) cw_X7_95 (Nat.le_of_ble_eq_true rfl) (by decide) (lyN0 (by assumption)) rfl rfl (Nat.le_of_ble_eq_true rfl) (c_hasStrand (by assumption) (by assumption) (by omega)) ?_
  refine Ev.if_eqB (tgt := 20) dX7_down_8 (Eq.refl 11) (by decide) (fun c8 => ?_) (fun c8 => ?_)
  · have e : aDown s k i = (-1, s) := if_neg (fun z => c8 ⟨z.1.1, by have := z.1.2; omega⟩)
    refine Ev.iconst dX7_down_20 (Eq.refl 21) ?_
    exact Ev.iret dX7_down_21 rfl ((by rw [e]; exact ⟨_, rfl, rfl, I'⟩))
  · refine Ev.iload_n dX7_down_11 (Eq.refl 12) rfl ?_
    refine Ev.iconst dX7_down_12 (Eq.refl 13) ?_
    refine Ev.iconst dX7_down_13 (Eq.refl 14) ?_
    refine Ev.cs3E dX7_down_14 (Eq.refl 17) cw_X7_85 (Nat.le_of_ble_eq_true rfl) (by decide) rfl (Nat.le_of_ble_eq_true rfl) (c_isWithin (by assumption) (by assumption) (by assumption)) ?_
    refine Ev.if_neB (tgt := 22) dX7_down_17 (Eq.refl 20) (by decide) (fun c17 => ?_) (fun c17 => ?_)
    · have kS : isS (sV s) k := ⟨c8.1, by omega⟩
      refine Ev.aload_n dX7_down_22 (Eq.refl 23) rfl ?_
      refine Ev.getR dX7_down_23 (Eq.refl 26) fg_X7_54 rfl rfl hN ?_
      refine Ev.iload_n dX7_down_26 (Eq.refl 27) rfl ?_
      refine Ev.cv1E dX7_down_27 (Eq.refl 30) cw_X7_128 (Nat.le_of_ble_eq_true rfl) (by decide) (lyN0 (by assumption)) rfl rfl (Nat.le_of_ble_eq_true rfl) (c_hangs (by assumption) (by omega) (by omega)) ?_
      refine Ev.iload_n dX7_down_30 (Eq.refl 31) rfl ?_
      refine Ev.if_ne (tgt := 38) dX7_down_31 (Eq.refl 34) (by decide) ⟨by omega, by omega⟩ (fun c31 => ?_) (fun c31 => ?_)
      · refine Ev.iconst dX7_down_38 (Eq.refl 39) ?_
        refine Ev.icmp_ne (tgt := 45) dX7_down_39 (Eq.refl 42) (by decide) (biR _) ⟨by omega, by omega⟩ (fun c39 => ?_) (fun c39 => ?_)
        · have ne : ¬ vH (sV s) k.toNat = decide (i = 0) := (by first | (rw [decide_eq_true c31]; exact fun z => c39 (bi_t (hhg.mpr z))) | (rw [decide_eq_false c31]; intro z; have : ¬ tb (h.1 n 3) k.toNat := fun w => (by rw [hhg.mp w] at z; cases z); exact c39 (bi_f this)))
          have e : aDown s k i = ((cnt (vH (vH1 (sV s) k.toNat (decide (i = 0)))) (vS (sV s)) : Int), psh s (vH1 (sV s) k.toNat (decide (i = 0)))) := (if_pos ⟨kS, c17⟩).trans (if_neg ne)
          refine Ev.aload_n dX7_down_45 (Eq.refl 46) rfl ?_
          refine Ev.getR dX7_down_46 (Eq.refl 49) fg_X7_26 rfl rfl (rX7_2 hR) ?_
          refine Ev.aload_n dX7_down_49 (Eq.refl 50) rfl ?_
          refine Ev.getR dX7_down_50 (Eq.refl 53) fg_X7_54 rfl rfl hN ?_
          refine Ev.cv1V dX7_down_53 (Eq.refl 56) cw_X7_103 (Nat.le_of_ble_eq_true rfl) (by decide) rfl rfl rfl (Nat.le_of_ble_eq_true rfl) (c_keep hR (by assumption) (by assumption) (by assumption) (by assumption)) (fun g53 hp53 => ?_)
          obtain ⟨hF, hp⟩ := hp53
          rw [hV] at hp
          have hR2 := hF.R hR
          have hN2 : g53.2.2 0 6 = n := by rw [hF.2.2]; exact hN
          have sm' := hF.same (n := n) (fun i h1 h2 => by unfold inPs; omega)
          have okg := sm'.ok ok
          have evg : cV g53 n = sV s := sm'.V.trans hV
          have hR := hR2
          have g3 : g53.1 n 3 = h.1 n 3 := sm' 0 (by omega) 3
          have ch := cH1_VN (k := k.toNat) (x := (((g53.1 n 3).toNat ^^^ (1 * (2 : Int) ^ k.toNat).toNat : Nat) : Int)) (c := decide (i = 0)) okg (by rw [evg]; omega) (Int.natCast_nonneg _) (fun j => by rw [tb_xor, tb_one]; exact (if w : j = k.toNat then by rw [if_pos w, w, g3]; have hne : ¬ (vH (sV s) k.toNat = true ↔ i = 0) := (fun z => ne (by rw [Bool.eq_iff_iff, z, decide_eq_true_iff])); rw [decide_eq_true_iff]; grind else by rw [if_neg w]; grind))
          rw [evg] at ch
          have okH := ch.2
          have cH := cnt_H okH
          have b0 := okH.2.2.2.1.1
          have b3 := okH.f3
          rw [ch.1] at cH
          rw [hI_eq] at cH b0 b3
          refine Ev.aload_n dX7_down_56 (Eq.refl 57) rfl ?_
          refine Ev.getR dX7_down_57 (Eq.refl 60) fg_X7_54 rfl rfl hN2 ?_
          refine Ev.dupR dX7_down_60 (Eq.refl 61) ?_
          refine Ev.getI dX7_down_61 (Eq.refl 64) fg_X7_131 (lyN0 (by assumption)) rfl ?_
          refine Ev.iconst dX7_down_64 (Eq.refl 65) ?_
          refine Ev.iload_n dX7_down_65 (Eq.refl 66) rfl ?_
          refine Ev.ishl dX7_down_66 (Eq.refl 67) (b_shl (by omega) (by omega) (by omega) (shl1 (by omega))) ?_
          refine Ev.ixor dX7_down_67 (Eq.refl 68) (b_xor (by rw [g3]; exact hH) shl0) ?_
          refine Ev.putI dX7_down_68 (Eq.refl 71) fp_X7_131 (lyN0 (by assumption)) rfl (Or.inl rfl) ?_
          refine Ev.aload_n dX7_down_71 (Eq.refl 72) rfl ?_
          refine Ev.getR dX7_down_72 (Eq.refl 75) fg_X7_54 rfl rfl hN2 ?_
          refine Ev.getI dX7_down_75 (Eq.refl 78) fg_X7_131 (lyN0 (by assumption)) rfl ?_
          rw [hI_eq]
          refine Ev.cs1E dX7_down_78 (Eq.refl 81) cw_X7_134 (Nat.le_of_ble_eq_true rfl) (by decide) rfl (Nat.le_of_ble_eq_true rfl) (c_bitCount b0 b3) ?_
          exact Ev.iret dX7_down_81 rfl ((by rw [e]; exact ⟨_, rfl, by rw [cH]; rfl, CInv.ch (h := h) (g := g53) (by assumption) hnd hN hD hT hF hp (Fr_w1 ⟨by omega, by omega⟩) ch⟩))
        · have e : aDown s k i = (-2, s) := (if_pos ⟨kS, c17⟩).trans (if_pos (by first | (have := hhg.mp (bi_1 c39); rw [this]; exact (decide_eq_true c31).symm) | (have : ¬ tb (h.1 n 3) k.toNat := bi_0 c39; cases z : vH (sV s) k.toNat with | false => exact (decide_eq_false c31).symm | true => exact absurd (hhg.mpr z) this)))
          refine Ev.bipush dX7_down_42 (Eq.refl 44) (by decide) ?_
          exact Ev.iret dX7_down_44 rfl ((by rw [e]; exact ⟨_, rfl, rfl, I'⟩))
      · refine Ev.iconst dX7_down_34 (Eq.refl 35) ?_
        refine Ev.goto' (pc' := 39) dX7_down_35 (by decide) ?_
        refine Ev.icmp_ne (tgt := 45) dX7_down_39 (Eq.refl 42) (by decide) (biR _) ⟨by omega, by omega⟩ (fun c39 => ?_) (fun c39 => ?_)
        · have ne : ¬ vH (sV s) k.toNat = decide (i = 0) := (by first | (rw [decide_eq_true c31]; exact fun z => c39 (bi_t (hhg.mpr z))) | (rw [decide_eq_false c31]; intro z; have : ¬ tb (h.1 n 3) k.toNat := fun w => (by rw [hhg.mp w] at z; cases z); exact c39 (bi_f this)))
          have e : aDown s k i = ((cnt (vH (vH1 (sV s) k.toNat (decide (i = 0)))) (vS (sV s)) : Int), psh s (vH1 (sV s) k.toNat (decide (i = 0)))) := (if_pos ⟨kS, c17⟩).trans (if_neg ne)
          refine Ev.aload_n dX7_down_45 (Eq.refl 46) rfl ?_
          refine Ev.getR dX7_down_46 (Eq.refl 49) fg_X7_26 rfl rfl (rX7_2 hR) ?_
          refine Ev.aload_n dX7_down_49 (Eq.refl 50) rfl ?_
          refine Ev.getR dX7_down_50 (Eq.refl 53) fg_X7_54 rfl rfl hN ?_
          refine Ev.cv1V dX7_down_53 (Eq.refl 56) cw_X7_103 (Nat.le_of_ble_eq_true rfl) (by decide) rfl rfl rfl (Nat.le_of_ble_eq_true rfl) (c_keep hR (by assumption) (by assumption) (by assumption) (by assumption)) (fun g53 hp53 => ?_)
          obtain ⟨hF, hp⟩ := hp53
          rw [hV] at hp
          have hR2 := hF.R hR
          have hN2 : g53.2.2 0 6 = n := by rw [hF.2.2]; exact hN
          have sm' := hF.same (n := n) (fun i h1 h2 => by unfold inPs; omega)
          have okg := sm'.ok ok
          have evg : cV g53 n = sV s := sm'.V.trans hV
          have hR := hR2
          have g3 : g53.1 n 3 = h.1 n 3 := sm' 0 (by omega) 3
          have ch := cH1_VN (k := k.toNat) (x := (((g53.1 n 3).toNat ^^^ (1 * (2 : Int) ^ k.toNat).toNat : Nat) : Int)) (c := decide (i = 0)) okg (by rw [evg]; omega) (Int.natCast_nonneg _) (fun j => by rw [tb_xor, tb_one]; exact (if w : j = k.toNat then by rw [if_pos w, w, g3]; have hne : ¬ (vH (sV s) k.toNat = true ↔ i = 0) := (fun z => ne (by rw [Bool.eq_iff_iff, z, decide_eq_true_iff])); rw [decide_eq_true_iff]; grind else by rw [if_neg w]; grind))
          rw [evg] at ch
          have okH := ch.2
          have cH := cnt_H okH
          have b0 := okH.2.2.2.1.1
          have b3 := okH.f3
          rw [ch.1] at cH
          rw [hI_eq] at cH b0 b3
          refine Ev.aload_n dX7_down_56 (Eq.refl 57) rfl ?_
          refine Ev.getR dX7_down_57 (Eq.refl 60) fg_X7_54 rfl rfl hN2 ?_
          refine Ev.dupR dX7_down_60 (Eq.refl 61) ?_
          refine Ev.getI dX7_down_61 (Eq.refl 64) fg_X7_131 (lyN0 (by assumption)) rfl ?_
          refine Ev.iconst dX7_down_64 (Eq.refl 65) ?_
          refine Ev.iload_n dX7_down_65 (Eq.refl 66) rfl ?_
          refine Ev.ishl dX7_down_66 (Eq.refl 67) (b_shl (by omega) (by omega) (by omega) (shl1 (by omega))) ?_
          refine Ev.ixor dX7_down_67 (Eq.refl 68) (b_xor (by rw [g3]; exact hH) shl0) ?_
          refine Ev.putI dX7_down_68 (Eq.refl 71) fp_X7_131 (lyN0 (by assumption)) rfl (Or.inl rfl) ?_
          refine Ev.aload_n dX7_down_71 (Eq.refl 72) rfl ?_
          refine Ev.getR dX7_down_72 (Eq.refl 75) fg_X7_54 rfl rfl hN2 ?_
          refine Ev.getI dX7_down_75 (Eq.refl 78) fg_X7_131 (lyN0 (by assumption)) rfl ?_
          rw [hI_eq]
          refine Ev.cs1E dX7_down_78 (Eq.refl 81) cw_X7_134 (Nat.le_of_ble_eq_true rfl) (by decide) rfl (Nat.le_of_ble_eq_true rfl) (c_bitCount b0 b3) ?_
          exact Ev.iret dX7_down_81 rfl ((by rw [e]; exact ⟨_, rfl, by rw [cH]; rfl, CInv.ch (h := h) (g := g53) (by assumption) hnd hN hD hT hF hp (Fr_w1 ⟨by omega, by omega⟩) ch⟩))
        · have e : aDown s k i = (-2, s) := (if_pos ⟨kS, c17⟩).trans (if_pos (by first | (have := hhg.mp (bi_1 c39); rw [this]; exact (decide_eq_true c31).symm) | (have : ¬ tb (h.1 n 3) k.toNat := bi_0 c39; cases z : vH (sV s) k.toNat with | false => exact (decide_eq_false c31).symm | true => exact absurd (hhg.mpr z) this)))
          refine Ev.bipush dX7_down_42 (Eq.refl 44) (by decide) ?_
          exact Ev.iret dX7_down_44 rfl ((by rw [e]; exact ⟨_, rfl, rfl, I'⟩))
    · have e : aDown s k i = (-1, s) := if_neg (fun z => c17 z.2)
      refine Ev.iconst dX7_down_20 (Eq.refl 21) ?_
      exact Ev.iret dX7_down_21 rfl ((by rw [e]; exact ⟨_, rfl, rfl, I'⟩))
