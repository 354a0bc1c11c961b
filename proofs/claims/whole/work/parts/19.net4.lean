/-! Net: addFree, addStrand, copyFrom, tellDensitiesAnew -/
theorem cnt_cut {f : Nat → Bool} {m : Nat} : ∀ k, m ≤ k → (∀ s, m ≤ s → s < k → f s = false) → cnt f k = cnt f m
  | 0, h, _ => by have : m = 0 := by omega
                  rw [this]
  | k + 1, h, hf => by
    by_cases e : m = k + 1
    · rw [e]
    · rw [cnt, cnt_cut k (by omega) (fun s h1 h2 => hf s h1 (by omega)), hf k (by omega) (by omega)]
      simp
theorem cnt_free {h : Hp} {n : Nat} (ok : NOk h n) : cnt (fun s => (h.1 n 1).toNat.testBit s) 14 = cnt (vF (cV h n)) (vJ (cV h n)) := by
  have hJ := ok.1
  rw [cnt_cut (m := vJ (cV h n)) 14 (by show (h.1 n 0).toNat ≤ 14; omega) (fun s h1 _ => by
    cases e : (h.1 n 1).toNat.testBit s
    · rfl
    · exact absurd e (tb_lt ok.2.1.2 h1 ok.2.1.1))]
  exact cnt_congr _ (fun s _ => by
    rw [Bool.eq_iff_iff]
    exact cV_F ok)
noncomputable def cFre (h : Hp) (n : Nat) (w : Int) : Hp := hI (hI (hI h n 1 (((h.1 n 1).toNat ||| (1 * (2 : Int) ^ (h.1 n 0).toNat).toNat : Nat) : Int)) (n + 2) (h.1 n 0).toNat w) n 0 (h.1 n 0 + 1)
theorem c_addFree {h : Hp} {n : Nat} {w : Int} (hR : ROk h.2.2) (hn : isNet n) (ok : NOk h n) (hw : -9 ≤ w ∧ w ≤ 99) : Ev mX2_addFree 1 0 (entL [.ref n, iv w] 2) [] h (PB (okFre (cV h n) w) (cFre h n w) h) := by
  show Ev mX2_addFree 1 0 [some (.ref n), some (iv w)] [] h _
  have hJ := ok.1
  have eJ := cV_J ok
  have hF := ok.2.1.1
  have hF2 := ok.f1
  have hc := cnt_free ok
  have hcl := cnt_le (vF (cV h n)) (vJ (cV h n))
  have n2 : n ≠ n + 2 := by omega
  have k1 : (0 : Nat) ≠ 1 := by omega
  refine Ev.aload_n dX2_addFree_0 (Eq.refl 1) rfl ?_
  refine Ev.getI dX2_addFree_1 (Eq.refl 4) fg_X2_30 (lyN0 (by assumption)) rfl ?_
  refine Ev.bipush dX2_addFree_4 (Eq.refl 6) (by decide) ?_
  refine Ev.icmp_ge (tgt := 26) dX2_addFree_6 (Eq.refl 9) (by decide) ⟨by omega, by omega⟩ ⟨by omega, by omega⟩ (fun c6 => ?_) (fun c6 => ?_)
  · refine Ev.iconst dX2_addFree_26 (Eq.refl 27) ?_
    exact Ev.zret dX2_addFree_27 rfl (by first | exact bi01 _ | exact Or.inl rfl | exact Or.inr rfl | omega) (PB.f (by unfold okFre; omega))
  · refine Ev.aload_n dX2_addFree_9 (Eq.refl 10) rfl ?_
    refine Ev.getI dX2_addFree_10 (Eq.refl 13) fg_X2_34 (lyN0 (by assumption)) rfl ?_
    refine Ev.cs1E dX2_addFree_13 (Eq.refl 16) cw_X2_55 (Nat.le_of_ble_eq_true rfl) (by decide) rfl (Nat.le_of_ble_eq_true rfl) (c_bitCount (by omega) (by omega)) ?_
    refine Ev.iconst dX2_addFree_16 (Eq.refl 17) ?_
    refine Ev.icmp_ge (tgt := 26) dX2_addFree_17 (Eq.refl 20) (by decide) ⟨by omega, by omega⟩ ⟨by omega, by omega⟩ (fun c17 => ?_) (fun c17 => ?_)
    · refine Ev.iconst dX2_addFree_26 (Eq.refl 27) ?_
      exact Ev.zret dX2_addFree_27 rfl (by first | exact bi01 _ | exact Or.inl rfl | exact Or.inr rfl | omega) (PB.f (by unfold okFre; omega))
    · refine Ev.iload_n dX2_addFree_20 (Eq.refl 21) rfl ?_
      refine Ev.bipush dX2_addFree_21 (Eq.refl 23) (by decide) ?_
      refine Ev.icmp_le (tgt := 28) dX2_addFree_23 (Eq.refl 26) (by decide) ⟨by omega, by omega⟩ ⟨by omega, by omega⟩ (fun c23 => ?_) (fun c23 => ?_)
      · refine Ev.aload_n dX2_addFree_28 (Eq.refl 29) rfl ?_
        refine Ev.dupR dX2_addFree_29 (Eq.refl 30) ?_
        refine Ev.getI dX2_addFree_30 (Eq.refl 33) fg_X2_34 (lyN0 (by assumption)) rfl ?_
        refine Ev.iconst dX2_addFree_33 (Eq.refl 34) ?_
        refine Ev.aload_n dX2_addFree_34 (Eq.refl 35) rfl ?_
        refine Ev.getI dX2_addFree_35 (Eq.refl 38) fg_X2_30 (lyN0 (by assumption)) rfl ?_
        refine Ev.ishl dX2_addFree_38 (Eq.refl 39) (b_shl (by omega) (by omega) (by omega) (shl1 (by omega))) ?_
        refine Ev.ior dX2_addFree_39 (Eq.refl 40) (b_or (by first | exact Int.natCast_nonneg _ | exact shl0 | omega) (by first | exact Int.natCast_nonneg _ | exact shl0 | omega)) ?_
        refine Ev.putI dX2_addFree_40 (Eq.refl 43) fp_X2_34 (lyN0 (by assumption)) rfl (Or.inl rfl) ?_
        refine Ev.aload_n dX2_addFree_43 (Eq.refl 44) rfl ?_
        refine Ev.getR dX2_addFree_44 (Eq.refl 47) fg_X2_15 (lyN0 (by assumption)) rfl (rN7 hR (by assumption)) ?_
        refine Ev.aload_n dX2_addFree_47 (Eq.refl 48) rfl ?_
        refine Ev.getI dX2_addFree_48 (Eq.refl 51) fg_X2_30 (lyN0 (by assumption)) rfl ?_
        rw [hI_nk k1]
        refine Ev.iload_n dX2_addFree_51 (Eq.refl 52) rfl ?_
        refine Ev.iastore dX2_addFree_52 (Eq.refl 53) (lyN2 (by assumption)) rfl (by omega) (by decide) (by first | with_reducible exact Int.toNat_natCast _ | exact Eq.refl _) ?_
        refine Ev.aload_n dX2_addFree_53 (Eq.refl 54) rfl ?_
        refine Ev.dupR dX2_addFree_54 (Eq.refl 55) ?_
        refine Ev.getI dX2_addFree_55 (Eq.refl 58) fg_X2_30 (lyN0 (by assumption)) rfl ?_
        rw [hI_ni n2, hI_nk k1]
        refine Ev.iconst dX2_addFree_58 (Eq.refl 59) ?_
        refine Ev.iadd dX2_addFree_59 (Eq.refl 60) ?_
        refine Ev.putI dX2_addFree_60 (Eq.refl 63) fp_X2_30 (lyN0 (by assumption)) rfl (Or.inl rfl) ?_
        refine Ev.iconst dX2_addFree_63 (Eq.refl 64) ?_
        exact Ev.zret dX2_addFree_64 rfl (by first | exact bi01 _ | exact Or.inl rfl | exact Or.inr rfl | omega) (PB.t (by unfold okFre; omega))
      · refine Ev.iconst dX2_addFree_26 (Eq.refl 27) ?_
        exact Ev.zret dX2_addFree_27 rfl (by first | exact bi01 _ | exact Or.inl rfl | exact Or.inr rfl | omega) (PB.f (by unfold okFre; omega))
noncomputable def cStr (h : Hp) (n : Nat) (a b q w : Int) : Hp := hI (hI (hI (hI (hI (hI h (n + 3) (h.1 n 2).toNat a) (n + 4) (h.1 n 2).toNat b) (n + 5) (h.1 n 2).toNat q) (n + 6) (h.1 n 2).toNat w) n 3 (((h.1 n 3).toNat ||| (1 * (2 : Int) ^ (h.1 n 2).toNat).toNat : Nat) : Int)) n 2 (h.1 n 2 + 1)
theorem sAt_tied {h : Hp} {n : Nat} {a b x y : Int} (ok : NOk h n) (ha : 0 ≤ a) (hb : 0 ≤ b) (hx : isSAt h n a (h.1 n 2).toNat x) (hy : isSAt h n b (h.1 n 2).toNat y) : ((x.toNat &&& y.toNat : Nat) : Int) = 0 ↔ ¬ vTied (cV h n) a.toNat b.toNat := by
  rw [tb_and0]
  constructor
  · rintro q ⟨s, hs, h1, h2⟩
    have hs2 : (s : Int) < h.1 n 2 := by have := cV_S ok; omega
    have eA := cV_A ok hs2
    have eB := cV_B ok hs2
    exact q s ⟨(hx.2.2 s).mpr ⟨hs, by omega⟩, (hy.2.2 s).mpr ⟨hs, by omega⟩⟩
  · rintro q s ⟨h1, h2⟩
    obtain ⟨g1, g2⟩ := (hx.2.2 s).mp h1
    obtain ⟨-, g3⟩ := (hy.2.2 s).mp h2
    have hs2 : (s : Int) < h.1 n 2 := by omega
    have eA := cV_A ok hs2
    have eB := cV_B ok hs2
    exact q ⟨s, g1, by omega, by omega⟩
theorem andR {x y : Int} (h : x ≤ 2147483647) : I32 ((x.toNat &&& y.toNat : Nat) : Int) := by
  have : x.toNat &&& y.toNat ≤ x.toNat := Nat.and_le_left
  exact ⟨by omega, by omega⟩
theorem c_addStrand {h : Hp} {n : Nat} {a b q w : Int} (hR : ROk h.2.2) (hn : isNet n) (ok : NOk h n) (ha : 0 ≤ a ∧ a ≤ 99) (hb : 0 ≤ b ∧ b ≤ 99) (hq : 0 ≤ q ∧ q ≤ 99) (hw : 0 ≤ w ∧ w ≤ 99) : Ev mX2_addStrand 2 0 (entL [.ref n, iv a, iv b, iv q, iv w] 7) [] h (PB (okStr (cV h n) a b q w) (cStr h n a b q w) h) := by
  show Ev mX2_addStrand 2 0 [some (.ref n), some (iv a), some (iv b), some (iv q), some (iv w), none, none] [] h _
  have hJ := ok.1
  have eJ := cV_J ok
  have eS := cV_S ok
  have hS := ok.2.2.1
  have hH := ok.2.2.2.1.1
  have hH2 := ok.f3
  have he := ok.ends
  have i1 : I32 a := ⟨by omega, by omega⟩
  have i2 : I32 b := ⟨by omega, by omega⟩
  have i3 : I32 q := ⟨by omega, by omega⟩
  have i4 : I32 1 := ⟨by omega, by omega⟩
  have i5 : I32 5 := ⟨by omega, by omega⟩
  have n3 : n ≠ n + 3 := by omega
  have n4 : n ≠ n + 4 := by omega
  have n5 : n ≠ n + 5 := by omega
  have n6 : n ≠ n + 6 := by omega
  have k1 : (2 : Nat) ≠ 3 := by omega
  refine Ev.aload_n dX2_addStrand_0 (Eq.refl 1) rfl ?_
  refine Ev.iload_n dX2_addStrand_1 (Eq.refl 2) rfl ?_
  refine Ev.cv1E dX2_addStrand_2 (Eq.refl 5) cw_X2_61 (Nat.le_of_ble_eq_true rfl) (by decide) (lyN0 (by assumption)) rfl rfl (Nat.le_of_ble_eq_true rfl) (c_hasJoint (by assumption) (by assumption) (by omega)) ?_
  refine Ev.if_eqB (tgt := 25) dX2_addStrand_5 (Eq.refl 8) (by decide) (fun c5 => ?_) (fun c5 => ?_)
  · refine Ev.iconst dX2_addStrand_25 (Eq.refl 26) ?_
    refine Ev.is5 dX2_addStrand_26 (Eq.refl 28) (by decide) rfl ?_
    refine Ev.aload_n dX2_addStrand_28 (Eq.refl 29) rfl ?_
    refine Ev.getI dX2_addStrand_29 (Eq.refl 32) fg_X2_37 (lyN0 (by assumption)) rfl ?_
    refine Ev.bipush dX2_addStrand_32 (Eq.refl 34) (by decide) ?_
    refine Ev.icmp_ge (tgt := 51) dX2_addStrand_34 (Eq.refl 37) (by decide) ⟨by omega, by omega⟩ ⟨by omega, by omega⟩ (fun c34 => ?_) (fun c34 => ?_)
    · refine Ev.iconst dX2_addStrand_51 (Eq.refl 52) ?_
      exact Ev.zret dX2_addStrand_52 rfl (by first | exact bi01 _ | exact Or.inl rfl | exact Or.inr rfl | omega) (PB.f (by unfold okStr; omega))
    · refine Ev.iload dX2_addStrand_37 (Eq.refl 39) rfl ?_
      refine Ev.if_eq (tgt := 51) dX2_addStrand_39 (Eq.refl 42) (by decide) ⟨by decide, by decide⟩ (fun _ => ?_) (fun c => absurd (by decide) c)
      refine Ev.iconst dX2_addStrand_51 (Eq.refl 52) ?_
      exact Ev.zret dX2_addStrand_52 rfl (by first | exact bi01 _ | exact Or.inl rfl | exact Or.inr rfl | omega) (PB.f (by unfold okStr; omega))
  · refine Ev.aload_n dX2_addStrand_8 (Eq.refl 9) rfl ?_
    refine Ev.iload_n dX2_addStrand_9 (Eq.refl 10) rfl ?_
    refine Ev.cv1E dX2_addStrand_10 (Eq.refl 13) cw_X2_61 (Nat.le_of_ble_eq_true rfl) (by decide) (lyN0 (by assumption)) rfl rfl (Nat.le_of_ble_eq_true rfl) (c_hasJoint (by assumption) (by assumption) (by omega)) ?_
    refine Ev.if_eqB (tgt := 25) dX2_addStrand_13 (Eq.refl 16) (by decide) (fun c13 => ?_) (fun c13 => ?_)
    · refine Ev.iconst dX2_addStrand_25 (Eq.refl 26) ?_
      refine Ev.is5 dX2_addStrand_26 (Eq.refl 28) (by decide) rfl ?_
      refine Ev.aload_n dX2_addStrand_28 (Eq.refl 29) rfl ?_
      refine Ev.getI dX2_addStrand_29 (Eq.refl 32) fg_X2_37 (lyN0 (by assumption)) rfl ?_
      refine Ev.bipush dX2_addStrand_32 (Eq.refl 34) (by decide) ?_
      refine Ev.icmp_ge (tgt := 51) dX2_addStrand_34 (Eq.refl 37) (by decide) ⟨by omega, by omega⟩ ⟨by omega, by omega⟩ (fun c34 => ?_) (fun c34 => ?_)
      · refine Ev.iconst dX2_addStrand_51 (Eq.refl 52) ?_
        exact Ev.zret dX2_addStrand_52 rfl (by first | exact bi01 _ | exact Or.inl rfl | exact Or.inr rfl | omega) (PB.f (by unfold okStr; omega))
      · refine Ev.iload dX2_addStrand_37 (Eq.refl 39) rfl ?_
        refine Ev.if_eq (tgt := 51) dX2_addStrand_39 (Eq.refl 42) (by decide) ⟨by decide, by decide⟩ (fun _ => ?_) (fun c => absurd (by decide) c)
        refine Ev.iconst dX2_addStrand_51 (Eq.refl 52) ?_
        exact Ev.zret dX2_addStrand_52 rfl (by first | exact bi01 _ | exact Or.inl rfl | exact Or.inr rfl | omega) (PB.f (by unfold okStr; omega))
    · refine Ev.iload_n dX2_addStrand_16 (Eq.refl 17) rfl ?_
      refine Ev.iload_n dX2_addStrand_17 (Eq.refl 18) rfl ?_
      refine Ev.icmp_eq (tgt := 25) dX2_addStrand_18 (Eq.refl 21) (by decide) ⟨by omega, by omega⟩ ⟨by omega, by omega⟩ (fun c18 => ?_) (fun c18 => ?_)
      · refine Ev.iconst dX2_addStrand_25 (Eq.refl 26) ?_
        refine Ev.is5 dX2_addStrand_26 (Eq.refl 28) (by decide) rfl ?_
        refine Ev.aload_n dX2_addStrand_28 (Eq.refl 29) rfl ?_
        refine Ev.getI dX2_addStrand_29 (Eq.refl 32) fg_X2_37 (lyN0 (by assumption)) rfl ?_
        refine Ev.bipush dX2_addStrand_32 (Eq.refl 34) (by decide) ?_
        refine Ev.icmp_ge (tgt := 51) dX2_addStrand_34 (Eq.refl 37) (by decide) ⟨by omega, by omega⟩ ⟨by omega, by omega⟩ (fun c34 => ?_) (fun c34 => ?_)
        · refine Ev.iconst dX2_addStrand_51 (Eq.refl 52) ?_
          exact Ev.zret dX2_addStrand_52 rfl (by first | exact bi01 _ | exact Or.inl rfl | exact Or.inr rfl | omega) (PB.f (by unfold okStr; omega))
        · refine Ev.iload dX2_addStrand_37 (Eq.refl 39) rfl ?_
          refine Ev.if_eq (tgt := 51) dX2_addStrand_39 (Eq.refl 42) (by decide) ⟨by decide, by decide⟩ (fun _ => ?_) (fun c => absurd (by decide) c)
          refine Ev.iconst dX2_addStrand_51 (Eq.refl 52) ?_
          exact Ev.zret dX2_addStrand_52 rfl (by first | exact bi01 _ | exact Or.inl rfl | exact Or.inr rfl | omega) (PB.f (by unfold okStr; omega))
      · refine Ev.iconst dX2_addStrand_21 (Eq.refl 22) ?_
        refine Ev.goto' (pc' := 26) dX2_addStrand_22 (by decide) ?_
        refine Ev.is5 dX2_addStrand_26 (Eq.refl 28) (by decide) rfl ?_
        refine Ev.aload_n dX2_addStrand_28 (Eq.refl 29) rfl ?_
        refine Ev.getI dX2_addStrand_29 (Eq.refl 32) fg_X2_37 (lyN0 (by assumption)) rfl ?_
        refine Ev.bipush dX2_addStrand_32 (Eq.refl 34) (by decide) ?_
        refine Ev.icmp_ge (tgt := 51) dX2_addStrand_34 (Eq.refl 37) (by decide) ⟨by omega, by omega⟩ ⟨by omega, by omega⟩ (fun c34 => ?_) (fun c34 => ?_)
        · refine Ev.iconst dX2_addStrand_51 (Eq.refl 52) ?_
          exact Ev.zret dX2_addStrand_52 rfl (by first | exact bi01 _ | exact Or.inl rfl | exact Or.inr rfl | omega) (PB.f (by unfold okStr; omega))
        · refine Ev.iload dX2_addStrand_37 (Eq.refl 39) rfl ?_
          refine Ev.if_eq (tgt := 51) dX2_addStrand_39 (Eq.refl 42) (by decide) ⟨by decide, by decide⟩ (fun c => absurd c (by decide)) (fun _ => ?_)
          refine Ev.iload_n dX2_addStrand_42 (Eq.refl 43) rfl ?_
          refine Ev.iconst dX2_addStrand_43 (Eq.refl 44) ?_
          refine Ev.iconst dX2_addStrand_44 (Eq.refl 45) ?_
          refine Ev.cn3E dX2_addStrand_45 (Eq.refl 48) rfl (Nat.le_of_ble_eq_true rfl) (by decide) rfl (Nat.le_of_ble_eq_true rfl) (c_isWithin (by assumption) (by assumption) (by assumption)) ?_
          refine Ev.if_neB (tgt := 53) dX2_addStrand_48 (Eq.refl 51) (by decide) (fun c48 => ?_) (fun c48 => ?_)
          · refine Ev.aload_n dX2_addStrand_53 (Eq.refl 54) rfl ?_
            refine Ev.iload_n dX2_addStrand_54 (Eq.refl 55) rfl ?_
            refine Ev.cv1I dX2_addStrand_55 (Eq.refl 58) cw_X2_69 (Nat.le_of_ble_eq_true rfl) (by decide) (lyN0 (by assumption)) rfl rfl (Nat.le_of_ble_eq_true rfl) (c_strandsAt hR (by assumption) (by omega) (by assumption) (by assumption)) (fun x55 g55 hp55 => ?_)
            obtain ⟨rfl, hx⟩ := hp55
            have hx0 := hx.1
            have hx1 := sAt_lt ok hx
            refine Ev.aload_n dX2_addStrand_58 (Eq.refl 59) rfl ?_
            refine Ev.iload_n dX2_addStrand_59 (Eq.refl 60) rfl ?_
            refine Ev.cv1I dX2_addStrand_60 (Eq.refl 63) cw_X2_69 (Nat.le_of_ble_eq_true rfl) (by decide) (lyN0 (by assumption)) rfl rfl (Nat.le_of_ble_eq_true rfl) (c_strandsAt hR (by assumption) (by omega) (by assumption) (by assumption)) (fun x60 g60 hp60 => ?_)
            obtain ⟨rfl, hy⟩ := hp60
            have hy0 := hy.1
            have hy1 := sAt_lt ok hy
            have ht := sAt_tied ok ha.1 hb.1 hx hy
            refine Ev.iand dX2_addStrand_63 (Eq.refl 64) (b_and (by first | exact Int.natCast_nonneg _ | exact shl0 | omega) (by first | exact Int.natCast_nonneg _ | exact shl0 | omega)) ?_
            refine Ev.if_eq (tgt := 71) dX2_addStrand_64 (Eq.refl 67) (by decide) (andR (by omega)) (fun c64 => ?_) (fun c64 => ?_)
            · have ht := ht.mp c64
              refine Ev.iconst dX2_addStrand_71 (Eq.refl 72) ?_
              refine Ev.is6 dX2_addStrand_72 (Eq.refl 74) (by decide) rfl ?_
              refine Ev.iload dX2_addStrand_74 (Eq.refl 76) rfl ?_
              refine Ev.bipush dX2_addStrand_76 (Eq.refl 78) (by decide) ?_
              refine Ev.icmp_gt (tgt := 102) dX2_addStrand_78 (Eq.refl 81) (by decide) ⟨by omega, by omega⟩ ⟨by omega, by omega⟩ (fun c78 => ?_) (fun c78 => ?_)
              · refine Ev.iconst dX2_addStrand_102 (Eq.refl 103) ?_
                exact Ev.zret dX2_addStrand_103 rfl (by first | exact bi01 _ | exact Or.inl rfl | exact Or.inr rfl | omega) (PB.f (by rintro ⟨z1, z2, z3, z4, z5, z6, z7, z8, z9⟩; first | omega | exact z7 ht | exact z8 (by assumption) | exact z9 (by assumption)))
              · refine Ev.iload dX2_addStrand_81 (Eq.refl 83) rfl ?_
                refine Ev.if_ne (tgt := 102) dX2_addStrand_83 (Eq.refl 86) (by decide) ⟨by decide, by decide⟩ (fun c => absurd c (by decide)) (fun _ => ?_)
                refine Ev.aload_n dX2_addStrand_86 (Eq.refl 87) rfl ?_
                refine Ev.iload_n dX2_addStrand_87 (Eq.refl 88) rfl ?_
                refine Ev.cv1E dX2_addStrand_88 (Eq.refl 91) cw_X2_72 (Nat.le_of_ble_eq_true rfl) (by decide) (lyN0 (by assumption)) rfl rfl (Nat.le_of_ble_eq_true rfl) (c_takesNoMore hR (by assumption) ok (by omega)) ?_
                refine Ev.if_neB (tgt := 102) dX2_addStrand_91 (Eq.refl 94) (by decide) (fun c91 => ?_) (fun c91 => ?_)
                · refine Ev.iconst dX2_addStrand_102 (Eq.refl 103) ?_
                  exact Ev.zret dX2_addStrand_103 rfl (by first | exact bi01 _ | exact Or.inl rfl | exact Or.inr rfl | omega) (PB.f (by rintro ⟨z1, z2, z3, z4, z5, z6, z7, z8, z9⟩; first | omega | exact z7 ht | exact z8 (by assumption) | exact z9 (by assumption)))
                · refine Ev.aload_n dX2_addStrand_94 (Eq.refl 95) rfl ?_
                  refine Ev.iload_n dX2_addStrand_95 (Eq.refl 96) rfl ?_
                  refine Ev.cv1E dX2_addStrand_96 (Eq.refl 99) cw_X2_72 (Nat.le_of_ble_eq_true rfl) (by decide) (lyN0 (by assumption)) rfl rfl (Nat.le_of_ble_eq_true rfl) (c_takesNoMore hR (by assumption) ok (by omega)) ?_
                  refine Ev.if_eqB (tgt := 104) dX2_addStrand_99 (Eq.refl 102) (by decide) (fun c99 => ?_) (fun c99 => ?_)
                  · refine Ev.aload_n dX2_addStrand_104 (Eq.refl 105) rfl ?_
                    refine Ev.getR dX2_addStrand_105 (Eq.refl 108) fg_X2_18 (lyN0 (by assumption)) rfl (rN8 hR (by assumption)) ?_
                    refine Ev.aload_n dX2_addStrand_108 (Eq.refl 109) rfl ?_
                    refine Ev.getI dX2_addStrand_109 (Eq.refl 112) fg_X2_37 (lyN0 (by assumption)) rfl ?_
                    refine Ev.iload_n dX2_addStrand_112 (Eq.refl 113) rfl ?_
                    refine Ev.iastore dX2_addStrand_113 (Eq.refl 114) (lyN3 (by assumption)) rfl (by omega) (by decide) (by first | with_reducible exact Int.toNat_natCast _ | exact Eq.refl _) ?_
                    refine Ev.aload_n dX2_addStrand_114 (Eq.refl 115) rfl ?_
                    refine Ev.getR dX2_addStrand_115 (Eq.refl 118) fg_X2_21 (lyN0 (by assumption)) rfl (rN9 hR (by assumption)) ?_
                    refine Ev.aload_n dX2_addStrand_118 (Eq.refl 119) rfl ?_
                    refine Ev.getI dX2_addStrand_119 (Eq.refl 122) fg_X2_37 (lyN0 (by assumption)) rfl ?_
                    rw [hI_ni n3]
                    refine Ev.iload_n dX2_addStrand_122 (Eq.refl 123) rfl ?_
                    refine Ev.iastore dX2_addStrand_123 (Eq.refl 124) (lyN4 (by assumption)) rfl (by omega) (by decide) (by first | with_reducible exact Int.toNat_natCast _ | exact Eq.refl _) ?_
                    refine Ev.aload_n dX2_addStrand_124 (Eq.refl 125) rfl ?_
                    refine Ev.getR dX2_addStrand_125 (Eq.refl 128) fg_X2_24 (lyN0 (by assumption)) rfl (rN10 hR (by assumption)) ?_
                    refine Ev.aload_n dX2_addStrand_128 (Eq.refl 129) rfl ?_
                    refine Ev.getI dX2_addStrand_129 (Eq.refl 132) fg_X2_37 (lyN0 (by assumption)) rfl ?_
                    rw [hI_ni n4, hI_ni n3]
                    refine Ev.iload_n dX2_addStrand_132 (Eq.refl 133) rfl ?_
                    refine Ev.iastore dX2_addStrand_133 (Eq.refl 134) (lyN5 (by assumption)) rfl (by omega) (by decide) (by first | with_reducible exact Int.toNat_natCast _ | exact Eq.refl _) ?_
                    refine Ev.aload_n dX2_addStrand_134 (Eq.refl 135) rfl ?_
                    refine Ev.getR dX2_addStrand_135 (Eq.refl 138) fg_X2_27 (lyN0 (by assumption)) rfl (rN11 hR (by assumption)) ?_
                    refine Ev.aload_n dX2_addStrand_138 (Eq.refl 139) rfl ?_
                    refine Ev.getI dX2_addStrand_139 (Eq.refl 142) fg_X2_37 (lyN0 (by assumption)) rfl ?_
                    rw [hI_ni n5, hI_ni n4, hI_ni n3]
                    refine Ev.iload dX2_addStrand_142 (Eq.refl 144) rfl ?_
                    refine Ev.iastore dX2_addStrand_144 (Eq.refl 145) (lyN6 (by assumption)) rfl (by omega) (by decide) (by first | with_reducible exact Int.toNat_natCast _ | exact Eq.refl _) ?_
                    refine Ev.aload_n dX2_addStrand_145 (Eq.refl 146) rfl ?_
                    refine Ev.dupR dX2_addStrand_146 (Eq.refl 147) ?_
                    refine Ev.getI dX2_addStrand_147 (Eq.refl 150) fg_X2_40 (lyN0 (by assumption)) rfl ?_
                    rw [hI_ni n6, hI_ni n5, hI_ni n4, hI_ni n3]
                    refine Ev.iconst dX2_addStrand_150 (Eq.refl 151) ?_
                    refine Ev.aload_n dX2_addStrand_151 (Eq.refl 152) rfl ?_
                    refine Ev.getI dX2_addStrand_152 (Eq.refl 155) fg_X2_37 (lyN0 (by assumption)) rfl ?_
                    rw [hI_ni n6, hI_ni n5, hI_ni n4, hI_ni n3]
                    refine Ev.ishl dX2_addStrand_155 (Eq.refl 156) (b_shl (by omega) (by omega) (by omega) (shl1 (by omega))) ?_
                    refine Ev.ior dX2_addStrand_156 (Eq.refl 157) (b_or (by first | exact Int.natCast_nonneg _ | exact shl0 | omega) (by first | exact Int.natCast_nonneg _ | exact shl0 | omega)) ?_
                    refine Ev.putI dX2_addStrand_157 (Eq.refl 160) fp_X2_40 (lyN0 (by assumption)) rfl (Or.inl rfl) ?_
                    refine Ev.aload_n dX2_addStrand_160 (Eq.refl 161) rfl ?_
                    refine Ev.dupR dX2_addStrand_161 (Eq.refl 162) ?_
                    refine Ev.getI dX2_addStrand_162 (Eq.refl 165) fg_X2_37 (lyN0 (by assumption)) rfl ?_
                    rw [hI_nk k1, hI_ni n6, hI_ni n5, hI_ni n4, hI_ni n3]
                    refine Ev.iconst dX2_addStrand_165 (Eq.refl 166) ?_
                    refine Ev.iadd dX2_addStrand_166 (Eq.refl 167) ?_
                    refine Ev.putI dX2_addStrand_167 (Eq.refl 170) fp_X2_37 (lyN0 (by assumption)) rfl (Or.inl rfl) ?_
                    refine Ev.iconst dX2_addStrand_170 (Eq.refl 171) ?_
                    exact Ev.zret dX2_addStrand_171 rfl (by first | exact bi01 _ | exact Or.inl rfl | exact Or.inr rfl | omega) (PB.t ⟨by omega, by omega, by omega, by omega, by omega, by omega, ht, c91, c99⟩)
                  · refine Ev.iconst dX2_addStrand_102 (Eq.refl 103) ?_
                    exact Ev.zret dX2_addStrand_103 rfl (by first | exact bi01 _ | exact Or.inl rfl | exact Or.inr rfl | omega) (PB.f (by rintro ⟨z1, z2, z3, z4, z5, z6, z7, z8, z9⟩; first | omega | exact z7 ht | exact z8 (by assumption) | exact z9 (by assumption)))
            · have ht := Classical.not_not.mp (mt ht.mpr c64)
              refine Ev.iconst dX2_addStrand_67 (Eq.refl 68) ?_
              refine Ev.goto' (pc' := 72) dX2_addStrand_68 (by decide) ?_
              refine Ev.is6 dX2_addStrand_72 (Eq.refl 74) (by decide) rfl ?_
              refine Ev.iload dX2_addStrand_74 (Eq.refl 76) rfl ?_
              refine Ev.bipush dX2_addStrand_76 (Eq.refl 78) (by decide) ?_
              refine Ev.icmp_gt (tgt := 102) dX2_addStrand_78 (Eq.refl 81) (by decide) ⟨by omega, by omega⟩ ⟨by omega, by omega⟩ (fun c78 => ?_) (fun c78 => ?_)
              · refine Ev.iconst dX2_addStrand_102 (Eq.refl 103) ?_
                exact Ev.zret dX2_addStrand_103 rfl (by first | exact bi01 _ | exact Or.inl rfl | exact Or.inr rfl | omega) (PB.f (by rintro ⟨z1, z2, z3, z4, z5, z6, z7, z8, z9⟩; first | omega | exact z7 ht | exact z8 (by assumption) | exact z9 (by assumption)))
              · refine Ev.iload dX2_addStrand_81 (Eq.refl 83) rfl ?_
                refine Ev.if_ne (tgt := 102) dX2_addStrand_83 (Eq.refl 86) (by decide) ⟨by decide, by decide⟩ (fun _ => ?_) (fun c => absurd c (by decide))
                refine Ev.iconst dX2_addStrand_102 (Eq.refl 103) ?_
                exact Ev.zret dX2_addStrand_103 rfl (by first | exact bi01 _ | exact Or.inl rfl | exact Or.inr rfl | omega) (PB.f (by rintro ⟨z1, z2, z3, z4, z5, z6, z7, z8, z9⟩; first | omega | exact z7 ht | exact z8 (by assumption) | exact z9 (by assumption)))
          · refine Ev.iconst dX2_addStrand_51 (Eq.refl 52) ?_
            exact Ev.zret dX2_addStrand_52 rfl (by first | exact bi01 _ | exact Or.inl rfl | exact Or.inr rfl | omega) (PB.f (by unfold okStr; omega))
def cC0 (h : Hp) (n o : Nat) : Hp := hI (hI (hI (hI (hI (hI h n 0 (h.1 o 0)) n 1 (h.1 o 1)) n 2 (h.1 o 2)) n 3 (h.1 o 3)) n 4 (h.1 o 4)) n 5 (h.1 o 5)
def cCpy (h : Hp) (n o : Nat) : Hp := hC (hC (hC (hC (hC (hC (cC0 h n o) (o + 1) (n + 1) 30) (o + 2) (n + 2) 10) (o + 3) (n + 3) 14) (o + 4) (n + 4) 14) (o + 5) (n + 5) 14) (o + 6) (n + 6) 14
theorem c_copyFrom {h : Hp} {n o : Nat} (hR : ROk h.2.2) (hn : isNet n) (ho : isNet o) (hno : o ≠ n) : Ev mX2_copyFrom 1 0 (entL [.ref n, .ref o] 2) [] h (PV (fun h' => h' = cCpy h n o)) := by
  show Ev mX2_copyFrom 1 0 [some (.ref n), some (.ref o)] [] h _
  refine Ev.aload_n dX2_copyFrom_0 (Eq.refl 1) rfl ?_
  refine Ev.aload_n dX2_copyFrom_1 (Eq.refl 2) rfl ?_
  refine Ev.getI dX2_copyFrom_2 (Eq.refl 5) fg_X2_30 (lyN0 (by assumption)) rfl ?_
  refine Ev.putI dX2_copyFrom_5 (Eq.refl 8) fp_X2_30 (lyN0 (by assumption)) rfl (Or.inl rfl) ?_
  refine Ev.aload_n dX2_copyFrom_8 (Eq.refl 9) rfl ?_
  refine Ev.aload_n dX2_copyFrom_9 (Eq.refl 10) rfl ?_
  refine Ev.getI dX2_copyFrom_10 (Eq.refl 13) fg_X2_34 (lyN0 (by assumption)) rfl ?_
  rw [hI_ni hno]
  refine Ev.putI dX2_copyFrom_13 (Eq.refl 16) fp_X2_34 (lyN0 (by assumption)) rfl (Or.inl rfl) ?_
  refine Ev.aload_n dX2_copyFrom_16 (Eq.refl 17) rfl ?_
  refine Ev.aload_n dX2_copyFrom_17 (Eq.refl 18) rfl ?_
  refine Ev.getI dX2_copyFrom_18 (Eq.refl 21) fg_X2_37 (lyN0 (by assumption)) rfl ?_
  simp only [hI_ni hno]
  refine Ev.putI dX2_copyFrom_21 (Eq.refl 24) fp_X2_37 (lyN0 (by assumption)) rfl (Or.inl rfl) ?_
  refine Ev.aload_n dX2_copyFrom_24 (Eq.refl 25) rfl ?_
  refine Ev.aload_n dX2_copyFrom_25 (Eq.refl 26) rfl ?_
  refine Ev.getI dX2_copyFrom_26 (Eq.refl 29) fg_X2_40 (lyN0 (by assumption)) rfl ?_
  simp only [hI_ni hno]
  refine Ev.putI dX2_copyFrom_29 (Eq.refl 32) fp_X2_40 (lyN0 (by assumption)) rfl (Or.inl rfl) ?_
  refine Ev.aload_n dX2_copyFrom_32 (Eq.refl 33) rfl ?_
  refine Ev.aload_n dX2_copyFrom_33 (Eq.refl 34) rfl ?_
  refine Ev.getI dX2_copyFrom_34 (Eq.refl 37) fg_X2_43 (lyN0 (by assumption)) rfl ?_
  simp only [hI_ni hno]
  refine Ev.putI dX2_copyFrom_37 (Eq.refl 40) fp_X2_43 (lyN0 (by assumption)) rfl (Or.inl rfl) ?_
  refine Ev.aload_n dX2_copyFrom_40 (Eq.refl 41) rfl ?_
  refine Ev.aload_n dX2_copyFrom_41 (Eq.refl 42) rfl ?_
  refine Ev.getI dX2_copyFrom_42 (Eq.refl 45) fg_X2_46 (lyN0 (by assumption)) rfl ?_
  simp only [hI_ni hno]
  refine Ev.putI dX2_copyFrom_45 (Eq.refl 48) fp_X2_46 (lyN0 (by assumption)) rfl (Or.inl rfl) ?_
  refine Ev.aload_n dX2_copyFrom_48 (Eq.refl 49) rfl ?_
  refine Ev.getR dX2_copyFrom_49 (Eq.refl 52) fg_X2_9 (lyN0 (by assumption)) rfl (rN6 hR (by assumption)) ?_
  refine Ev.iconst dX2_copyFrom_52 (Eq.refl 53) ?_
  refine Ev.aload_n dX2_copyFrom_53 (Eq.refl 54) rfl ?_
  refine Ev.getR dX2_copyFrom_54 (Eq.refl 57) fg_X2_9 (lyN0 (by assumption)) rfl (rN6 hR (by assumption)) ?_
  refine Ev.iconst dX2_copyFrom_57 (Eq.refl 58) ?_
  refine Ev.bipush dX2_copyFrom_58 (Eq.refl 60) (by decide) ?_
  refine Ev.cpy (n := 30) dX2_copyFrom_60 (Eq.refl 63) wm_X2_49 (by decide) (Nat.le_of_ble_eq_true rfl) (lyN1 (by assumption)) (lyN1 (by assumption)) rfl (by decide) (by decide) (by decide) ?_
  refine Ev.aload_n dX2_copyFrom_63 (Eq.refl 64) rfl ?_
  refine Ev.getR dX2_copyFrom_64 (Eq.refl 67) fg_X2_15 (lyN0 (by assumption)) rfl (rN7 hR (by assumption)) ?_
  refine Ev.iconst dX2_copyFrom_67 (Eq.refl 68) ?_
  refine Ev.aload_n dX2_copyFrom_68 (Eq.refl 69) rfl ?_
  refine Ev.getR dX2_copyFrom_69 (Eq.refl 72) fg_X2_15 (lyN0 (by assumption)) rfl (rN7 hR (by assumption)) ?_
  refine Ev.iconst dX2_copyFrom_72 (Eq.refl 73) ?_
  refine Ev.bipush dX2_copyFrom_73 (Eq.refl 75) (by decide) ?_
  refine Ev.cpy (n := 10) dX2_copyFrom_75 (Eq.refl 78) wm_X2_49 (by decide) (Nat.le_of_ble_eq_true rfl) (lyN2 (by assumption)) (lyN2 (by assumption)) rfl (by decide) (by decide) (by decide) ?_
  refine Ev.aload_n dX2_copyFrom_78 (Eq.refl 79) rfl ?_
  refine Ev.getR dX2_copyFrom_79 (Eq.refl 82) fg_X2_18 (lyN0 (by assumption)) rfl (rN8 hR (by assumption)) ?_
  refine Ev.iconst dX2_copyFrom_82 (Eq.refl 83) ?_
  refine Ev.aload_n dX2_copyFrom_83 (Eq.refl 84) rfl ?_
  refine Ev.getR dX2_copyFrom_84 (Eq.refl 87) fg_X2_18 (lyN0 (by assumption)) rfl (rN8 hR (by assumption)) ?_
  refine Ev.iconst dX2_copyFrom_87 (Eq.refl 88) ?_
  refine Ev.bipush dX2_copyFrom_88 (Eq.refl 90) (by decide) ?_
  refine Ev.cpy (n := 14) dX2_copyFrom_90 (Eq.refl 93) wm_X2_49 (by decide) (Nat.le_of_ble_eq_true rfl) (lyN3 (by assumption)) (lyN3 (by assumption)) rfl (by decide) (by decide) (by decide) ?_
  refine Ev.aload_n dX2_copyFrom_93 (Eq.refl 94) rfl ?_
  refine Ev.getR dX2_copyFrom_94 (Eq.refl 97) fg_X2_21 (lyN0 (by assumption)) rfl (rN9 hR (by assumption)) ?_
  refine Ev.iconst dX2_copyFrom_97 (Eq.refl 98) ?_
  refine Ev.aload_n dX2_copyFrom_98 (Eq.refl 99) rfl ?_
  refine Ev.getR dX2_copyFrom_99 (Eq.refl 102) fg_X2_21 (lyN0 (by assumption)) rfl (rN9 hR (by assumption)) ?_
  refine Ev.iconst dX2_copyFrom_102 (Eq.refl 103) ?_
  refine Ev.bipush dX2_copyFrom_103 (Eq.refl 105) (by decide) ?_
  refine Ev.cpy (n := 14) dX2_copyFrom_105 (Eq.refl 108) wm_X2_49 (by decide) (Nat.le_of_ble_eq_true rfl) (lyN4 (by assumption)) (lyN4 (by assumption)) rfl (by decide) (by decide) (by decide) ?_
  refine Ev.aload_n dX2_copyFrom_108 (Eq.refl 109) rfl ?_
  refine Ev.getR dX2_copyFrom_109 (Eq.refl 112) fg_X2_24 (lyN0 (by assumption)) rfl (rN10 hR (by assumption)) ?_
  refine Ev.iconst dX2_copyFrom_112 (Eq.refl 113) ?_
  refine Ev.aload_n dX2_copyFrom_113 (Eq.refl 114) rfl ?_
  refine Ev.getR dX2_copyFrom_114 (Eq.refl 117) fg_X2_24 (lyN0 (by assumption)) rfl (rN10 hR (by assumption)) ?_
  refine Ev.iconst dX2_copyFrom_117 (Eq.refl 118) ?_
  refine Ev.bipush dX2_copyFrom_118 (Eq.refl 120) (by decide) ?_
  refine Ev.cpy (n := 14) dX2_copyFrom_120 (Eq.refl 123) wm_X2_49 (by decide) (Nat.le_of_ble_eq_true rfl) (lyN5 (by assumption)) (lyN5 (by assumption)) rfl (by decide) (by decide) (by decide) ?_
  refine Ev.aload_n dX2_copyFrom_123 (Eq.refl 124) rfl ?_
  refine Ev.getR dX2_copyFrom_124 (Eq.refl 127) fg_X2_27 (lyN0 (by assumption)) rfl (rN11 hR (by assumption)) ?_
  refine Ev.iconst dX2_copyFrom_127 (Eq.refl 128) ?_
  refine Ev.aload_n dX2_copyFrom_128 (Eq.refl 129) rfl ?_
  refine Ev.getR dX2_copyFrom_129 (Eq.refl 132) fg_X2_27 (lyN0 (by assumption)) rfl (rN11 hR (by assumption)) ?_
  refine Ev.iconst dX2_copyFrom_132 (Eq.refl 133) ?_
  refine Ev.bipush dX2_copyFrom_133 (Eq.refl 135) (by decide) ?_
  refine Ev.cpy (n := 14) dX2_copyFrom_135 (Eq.refl 138) wm_X2_49 (by decide) (Nat.le_of_ble_eq_true rfl) (lyN6 (by assumption)) (lyN6 (by assumption)) rfl (by decide) (by decide) (by decide) ?_
  exact Ev.vret dX2_copyFrom_138 rfl (⟨rfl, rfl⟩)
/-- a round of densities over the first k strands -/
def hDen (h : Hp) (n : Nat) (f : Nat → Int) (k : Nat) : Hp := (fun i j => if i = n + 5 ∧ j < k then f j else h.1 i j, h.2)
/-- the density that a round tells, by a length -/
def nQ (v : Nv) (len : Nat → Int) (s : Nat) : Int := if vH v s = true ∧ ¬ vW v s = 0 then (if 100 * vW v s < len s then (if vQ v s < 5 then vQ v s + 1 else 5) else if len s < 100 * vW v s then (if 1 < vQ v s then vQ v s - 1 else 1) else vQ v s) else vQ v s
theorem hDen_rd {h : Hp} {n : Nat} {f : Nat → Int} {k a b : Nat} : (hDen h n f k).1 a b = if a = n + 5 ∧ b < k then f b else h.1 a b := rfl
theorem hDen_ni {h : Hp} {n : Nat} {f : Nat → Int} {k a b : Nat} (q : a ≠ n + 5) : (hDen h n f k).1 a b = h.1 a b := if_neg (fun z => q z.1)
theorem hDen_ge {h : Hp} {n : Nat} {f : Nat → Int} {k b : Nat} (q : k ≤ b) : (hDen h n f k).1 (n + 5) b = h.1 (n + 5) b := if_neg (fun z => by omega)
theorem hDen_s {h : Hp} {n : Nat} {f : Nat → Int} {k : Nat} : hI (hDen h n f k) (n + 5) k (f k) = hDen h n f (k + 1) := by
  refine hp_ext (fun a b => ?_) (fun _ _ => rfl) rfl
  simp only [hI_rd, hDen_rd]
  by_cases e : a = n + 5
  · by_cases e2 : b = k
    · subst e2; simp [e]
    · by_cases e3 : b < k
      · rw [if_neg (by omega), if_pos (by omega), if_pos (by omega)]
      · rw [if_neg (by omega), if_neg (by omega), if_neg (by omega)]
  · rw [if_neg (by omega), if_neg (by omega), if_neg (by omega)]
theorem hDen_n {h : Hp} {n : Nat} {f : Nat → Int} {k : Nat} (q : f k = h.1 (n + 5) k) : hDen h n f k = hDen h n f (k + 1) := by
  rw [← hDen_s]
  refine hp_ext (fun a b => ?_) (fun _ _ => rfl) rfl
  simp only [hI_rd, hDen_rd]
  by_cases e : a = n + 5 ∧ b = k
  · rw [if_pos e, if_neg (by omega), q, e.1, e.2]
  · rw [if_neg e]
theorem hDen_0 {h : Hp} {n : Nat} {f : Nat → Int} : hDen h n f 0 = h := by
  refine hp_ext (fun a b => ?_) (fun _ _ => rfl) rfl
  rw [hDen_rd, if_neg (by omega)]
theorem nQ_eq {v : Nv} {len : Nat → Int} {s : Nat} (h1 : 1 ≤ vQ v s) (h5 : vQ v s ≤ 5) (hH : vH v s = true) (hW : ¬ vW v s = 0) : (if (if 1 < vQ v s + icmp (len s) (100 * vW v s) then vQ v s + icmp (len s) (100 * vW v s) else 1) < 5 then (if 1 < vQ v s + icmp (len s) (100 * vW v s) then vQ v s + icmp (len s) (100 * vW v s) else 1) else 5) = nQ v len s := by
  unfold nQ
  rw [if_pos (show vH v s = true ∧ ¬ vW v s = 0 from ⟨hH, hW⟩)]
  unfold icmp
  repeat' split
  all_goals omega
theorem c_tellDens {h : Hp} {n s : Nat} (hR : ROk h.2.2) (hn : isNet n) (hs : isShp s) (ok : NOk h n) (hl : ∀ k : Nat, (k : Int) < h.1 n 2 → 0 ≤ h.1 (s + 4) k ∧ h.1 (s + 4) k ≤ 1000000) : Ev mX2_tellDensitiesAnew 1 0 (entL [.ref n, .ref (s + 4)] 6) [] h (PI (fun x h' => h' = hDen h n (nQ (cV h n) (h.1 (s + 4))) (vS (cV h n)) ∧ x = bi (∃ k, k < vS (cV h n) ∧ nQ (cV h n) (h.1 (s + 4)) k ≠ vQ (cV h n) k))) := by
  show Ev mX2_tellDensitiesAnew 1 0 [some (.ref n), some (.ref (s + 4)), none, none, none, none] [] h _
  have hS := ok.2.2.1
  have eS := cV_S ok
  have hH := ok.2.2.2.1.1
  have hH2 := ok.f3
  generalize hf : nQ (cV h n) (h.1 (s + 4)) = f
  have n0 : n ≠ n + 5 := by omega
  have n6 : n + 6 ≠ n + 5 := by omega
  have s4 : s + 4 ≠ n + 5 := by omega
  have LOOP : ∀ (m k : Nat) (x : Int) (a b : Option Value), vS (cV h n) - k = m → k ≤ vS (cV h n) → x = bi (∃ i, i < k ∧ f i ≠ vQ (cV h n) i) → Ev mX2_tellDensitiesAnew 1 4 [some (.ref n), some (.ref (s + 4)), some (iv x), some (iv (k : Int)), a, b] [] (hDen h n f k) (PI (fun x h' => h' = hDen h n f (vS (cV h n)) ∧ x = bi (∃ i, i < vS (cV h n) ∧ f i ≠ vQ (cV h n) i))) := by
    intro m
    induction m using Nat.strongRecOn with
    | ind m ih =>
      intro k x a b hm hk hx
      have hx01 := bi01 (∃ i, i < k ∧ f i ≠ vQ (cV h n) i)
      have cont : ∀ y : Int, ¬ (∃ i, i < k ∧ f i ≠ vQ (cV h n) i) → y = bi (f k ≠ vQ (cV h n) k) → y = bi (∃ i, i < k + 1 ∧ f i ≠ vQ (cV h n) i) := fun y h1 h2 => by
        rw [h2]
        refine bi_c ⟨fun q => ⟨k, by omega, q⟩, ?_⟩
        rintro ⟨i, hi, q⟩
        by_cases e : i = k
        · rw [← e]; exact q
        · exact absurd ⟨i, by omega, q⟩ h1
      have up : (∃ i, i < k ∧ f i ≠ vQ (cV h n) i) → (1 : Int) = bi (∃ i, i < k + 1 ∧ f i ≠ vQ (cV h n) i) := fun ⟨i, h1, h2⟩ => (bi_t ⟨i, by omega, h2⟩).symm
      have same : f k = vQ (cV h n) k → x = bi (∃ i, i < k + 1 ∧ f i ≠ vQ (cV h n) i) := fun q => by
        rw [hx]
        refine bi_c ⟨fun ⟨i, h1, h2⟩ => ⟨i, by omega, h2⟩, fun ⟨i, h1, h2⟩ => ⟨i, ?_, h2⟩⟩
        by_cases e : i = k
        · rw [e] at h2; exact absurd q h2
        · omega
      refine Ev.iload_n dX2_tellDensitiesAnew_4 (Eq.refl 5) rfl ?_
      refine Ev.aload_n dX2_tellDensitiesAnew_5 (Eq.refl 6) rfl ?_
      refine Ev.getI dX2_tellDensitiesAnew_6 (Eq.refl 9) fg_X2_37 (lyN0 (by assumption)) rfl ?_
      rw [hDen_ni n0]
      refine Ev.icmp_ge (tgt := 103) dX2_tellDensitiesAnew_9 (Eq.refl 12) (by decide) ⟨by omega, by omega⟩ ⟨by omega, by omega⟩ (fun c9 => ?_) (fun c9 => ?_)
      · have e : k = vS (cV h n) := by omega
        refine Ev.iload_n dX2_tellDensitiesAnew_103 (Eq.refl 104) rfl ?_
        exact Ev.zret dX2_tellDensitiesAnew_104 rfl (by first | exact bi01 _ | exact Or.inl rfl | exact Or.inr rfl | omega) (⟨_, rfl, by rw [e], by rw [hx, e]⟩)
      · have hk2 : (k : Int) < h.1 n 2 := by omega
        have eW := cV_W hk2
        have eQ := cV_Q hk2
        have hvs := ok.2.2.2.2.2.2.2.2.1 k (by omega)
        have hlk := hl k hk2
        have hHk := cV_H (s := k) ok
        refine Ev.aload_n dX2_tellDensitiesAnew_12 (Eq.refl 13) rfl ?_
        refine Ev.iload_n dX2_tellDensitiesAnew_13 (Eq.refl 14) rfl ?_
        refine Ev.cv1E dX2_tellDensitiesAnew_14 (Eq.refl 17) cw_X2_81 (Nat.le_of_ble_eq_true rfl) (by decide) (lyN0 (by assumption)) rfl rfl (Nat.le_of_ble_eq_true rfl) (c_hangs (by assumption) (by omega) (by rw [hDen_ni n0]; omega)) ?_
        rw [hDen_ni n0, Int.toNat_natCast]
        refine Ev.if_eqB (tgt := 97) dX2_tellDensitiesAnew_17 (Eq.refl 20) (by decide) (fun c17 => ?_) (fun c17 => ?_)
        · have hfk : f k = vQ (cV h n) k := by rw [← hf]; exact if_neg (fun z => c17 (hHk.mpr z.1))
          refine Ev.ii3 dX2_tellDensitiesAnew_97 (Eq.refl 100) (by decide) rfl ?_
          refine Ev.goto' (pc' := 4) dX2_tellDensitiesAnew_100 (by decide) ?_
          first | (rw [hDen_n (hfk.trans eQ.symm)]; exact ih _ (by omega) (k + 1) _ _ _ rfl (by omega) (same hfk)) | exact ih _ (by omega) (k + 1) _ _ _ rfl (by omega) (by first | exact up (Classical.byContradiction fun z => c69 (hx.trans (bi_f z))) | exact cont 1 (fun z => by rw [bi_t z] at hx; omega) (bi_t c80).symm | exact cont 0 (fun z => by rw [bi_t z] at hx; omega) (bi_f (fun z => z c80)).symm)
        · refine Ev.aload_n dX2_tellDensitiesAnew_20 (Eq.refl 21) rfl ?_
          refine Ev.getR dX2_tellDensitiesAnew_21 (Eq.refl 24) fg_X2_27 (lyN0 (by assumption)) rfl (rN11 hR (by assumption)) ?_
          refine Ev.iload_n dX2_tellDensitiesAnew_24 (Eq.refl 25) rfl ?_
          refine Ev.iaload dX2_tellDensitiesAnew_25 (Eq.refl 26) (lyN6 (by assumption)) rfl (by omega) (by decide) (by first | with_reducible exact Int.toNat_natCast _ | exact Eq.refl _) ?_
          rw [hDen_ni n6, eW]
          refine Ev.if_ne (tgt := 32) dX2_tellDensitiesAnew_26 (Eq.refl 29) (by decide) ⟨by omega, by omega⟩ (fun c26 => ?_) (fun c26 => ?_)
          · refine Ev.aload_n dX2_tellDensitiesAnew_32 (Eq.refl 33) rfl ?_
            refine Ev.iload_n dX2_tellDensitiesAnew_33 (Eq.refl 34) rfl ?_
            refine Ev.iaload dX2_tellDensitiesAnew_34 (Eq.refl 35) (lyS4 (by assumption)) rfl (by omega) (by decide) (by first | with_reducible exact Int.toNat_natCast _ | exact Eq.refl _) ?_
            rw [hDen_ni s4]
            refine Ev.bipush dX2_tellDensitiesAnew_35 (Eq.refl 37) (by decide) ?_
            refine Ev.aload_n dX2_tellDensitiesAnew_37 (Eq.refl 38) rfl ?_
            refine Ev.getR dX2_tellDensitiesAnew_38 (Eq.refl 41) fg_X2_27 (lyN0 (by assumption)) rfl (rN11 hR (by assumption)) ?_
            refine Ev.iload_n dX2_tellDensitiesAnew_41 (Eq.refl 42) rfl ?_
            refine Ev.iaload dX2_tellDensitiesAnew_42 (Eq.refl 43) (lyN6 (by assumption)) rfl (by omega) (by decide) (by first | with_reducible exact Int.toNat_natCast _ | exact Eq.refl _) ?_
            rw [hDen_ni n6, eW]
            refine Ev.imul dX2_tellDensitiesAnew_43 (Eq.refl 44) ?_
            refine Ev.cs2E dX2_tellDensitiesAnew_44 (Eq.refl 47) cw_X2_84 (Nat.le_of_ble_eq_true rfl) (by decide) rfl (Nat.le_of_ble_eq_true rfl) (c_compare ⟨by omega, by omega⟩ ⟨by omega, by omega⟩) ?_
            have hcmp : icmp (h.1 (s + 4) k) (100 * vW (cV h n) k) = -1 ∨ icmp (h.1 (s + 4) k) (100 * vW (cV h n) k) = 0 ∨ icmp (h.1 (s + 4) k) (100 * vW (cV h n) k) = 1 := by unfold icmp; split <;> (try split) <;> omega
            refine Ev.is4 dX2_tellDensitiesAnew_47 (Eq.refl 49) (by decide) rfl ?_
            refine Ev.iconst dX2_tellDensitiesAnew_49 (Eq.refl 50) ?_
            refine Ev.iconst dX2_tellDensitiesAnew_50 (Eq.refl 51) ?_
            refine Ev.aload_n dX2_tellDensitiesAnew_51 (Eq.refl 52) rfl ?_
            refine Ev.getR dX2_tellDensitiesAnew_52 (Eq.refl 55) fg_X2_24 (lyN0 (by assumption)) rfl (rN10 hR (by assumption)) ?_
            refine Ev.iload_n dX2_tellDensitiesAnew_55 (Eq.refl 56) rfl ?_
            refine Ev.iaload dX2_tellDensitiesAnew_56 (Eq.refl 57) (lyN5 (by assumption)) rfl (by omega) (by decide) (by first | with_reducible exact Int.toNat_natCast _ | exact Eq.refl _) ?_
            rw [hDen_ge (Nat.le_refl k), eQ]
            refine Ev.iload dX2_tellDensitiesAnew_57 (Eq.refl 59) rfl ?_
            refine Ev.iadd dX2_tellDensitiesAnew_59 (Eq.refl 60) ?_
            refine Ev.mmax dX2_tellDensitiesAnew_60 (Eq.refl 63) wm_X2_88 (by decide) (Nat.le_of_ble_eq_true rfl) ⟨by omega, by omega⟩ ⟨by omega, by omega⟩ ?_
            refine Ev.mmin dX2_tellDensitiesAnew_63 (Eq.refl 66) wm_X2_93 (by decide) (Nat.le_of_ble_eq_true rfl) ⟨by omega, by omega⟩ ⟨by split <;> omega, by split <;> omega⟩ ?_
            have hA : (if (if 1 < vQ (cV h n) k + icmp (h.1 (s + 4) k) (100 * vW (cV h n) k) then vQ (cV h n) k + icmp (h.1 (s + 4) k) (100 * vW (cV h n) k) else 1) < 5 then (if 1 < vQ (cV h n) k + icmp (h.1 (s + 4) k) (100 * vW (cV h n) k) then vQ (cV h n) k + icmp (h.1 (s + 4) k) (100 * vW (cV h n) k) else 1) else 5) = f k := by rw [← hf]; exact nQ_eq hvs.2.2.2.1 hvs.2.2.2.2.1 (hHk.mp c17) c26
            rw [hA]
            have hfr : 1 ≤ f k ∧ f k ≤ 5 := by rw [← hA]; split <;> (try split) <;> omega
            refine Ev.is5 dX2_tellDensitiesAnew_66 (Eq.refl 68) (by decide) rfl ?_
            refine Ev.iload_n dX2_tellDensitiesAnew_68 (Eq.refl 69) rfl ?_
            refine Ev.if_ne (tgt := 83) dX2_tellDensitiesAnew_69 (Eq.refl 72) (by decide) ⟨by omega, by omega⟩ (fun c69 => ?_) (fun c69 => ?_)
            · refine Ev.iconst dX2_tellDensitiesAnew_83 (Eq.refl 84) ?_
              refine Ev.goto' (pc' := 88) dX2_tellDensitiesAnew_84 (by decide) ?_
              refine Ev.is2 dX2_tellDensitiesAnew_88 (Eq.refl 89) (by decide) rfl ?_
              refine Ev.aload_n dX2_tellDensitiesAnew_89 (Eq.refl 90) rfl ?_
              refine Ev.getR dX2_tellDensitiesAnew_90 (Eq.refl 93) fg_X2_24 (lyN0 (by assumption)) rfl (rN10 hR (by assumption)) ?_
              refine Ev.iload_n dX2_tellDensitiesAnew_93 (Eq.refl 94) rfl ?_
              refine Ev.iload dX2_tellDensitiesAnew_94 (Eq.refl 96) rfl ?_
              refine Ev.iastore dX2_tellDensitiesAnew_96 (Eq.refl 97) (lyN5 (by assumption)) rfl (by omega) (by decide) (by first | with_reducible exact Int.toNat_natCast _ | exact Eq.refl _) ?_
              rw [hDen_s]
              refine Ev.ii3 dX2_tellDensitiesAnew_97 (Eq.refl 100) (by decide) rfl ?_
              refine Ev.goto' (pc' := 4) dX2_tellDensitiesAnew_100 (by decide) ?_
              first | (rw [hDen_n (hfk.trans eQ.symm)]; exact ih _ (by omega) (k + 1) _ _ _ rfl (by omega) (same hfk)) | exact ih _ (by omega) (k + 1) _ _ _ rfl (by omega) (by first | exact up (Classical.byContradiction fun z => c69 (hx.trans (bi_f z))) | exact cont 1 (fun z => by rw [bi_t z] at hx; omega) (bi_t c80).symm | exact cont 0 (fun z => by rw [bi_t z] at hx; omega) (bi_f (fun z => z c80)).symm)
            · refine Ev.iload dX2_tellDensitiesAnew_72 (Eq.refl 74) rfl ?_
              refine Ev.aload_n dX2_tellDensitiesAnew_74 (Eq.refl 75) rfl ?_
              refine Ev.getR dX2_tellDensitiesAnew_75 (Eq.refl 78) fg_X2_24 (lyN0 (by assumption)) rfl (rN10 hR (by assumption)) ?_
              refine Ev.iload_n dX2_tellDensitiesAnew_78 (Eq.refl 79) rfl ?_
              refine Ev.iaload dX2_tellDensitiesAnew_79 (Eq.refl 80) (lyN5 (by assumption)) rfl (by omega) (by decide) (by first | with_reducible exact Int.toNat_natCast _ | exact Eq.refl _) ?_
              rw [hDen_ge (Nat.le_refl k), eQ]
              refine Ev.icmp_eq (tgt := 87) dX2_tellDensitiesAnew_80 (Eq.refl 83) (by decide) ⟨by omega, by omega⟩ ⟨by omega, by omega⟩ (fun c80 => ?_) (fun c80 => ?_)
              · refine Ev.iconst dX2_tellDensitiesAnew_87 (Eq.refl 88) ?_
                refine Ev.is2 dX2_tellDensitiesAnew_88 (Eq.refl 89) (by decide) rfl ?_
                refine Ev.aload_n dX2_tellDensitiesAnew_89 (Eq.refl 90) rfl ?_
                refine Ev.getR dX2_tellDensitiesAnew_90 (Eq.refl 93) fg_X2_24 (lyN0 (by assumption)) rfl (rN10 hR (by assumption)) ?_
                refine Ev.iload_n dX2_tellDensitiesAnew_93 (Eq.refl 94) rfl ?_
                refine Ev.iload dX2_tellDensitiesAnew_94 (Eq.refl 96) rfl ?_
                refine Ev.iastore dX2_tellDensitiesAnew_96 (Eq.refl 97) (lyN5 (by assumption)) rfl (by omega) (by decide) (by first | with_reducible exact Int.toNat_natCast _ | exact Eq.refl _) ?_
                rw [hDen_s]
                refine Ev.ii3 dX2_tellDensitiesAnew_97 (Eq.refl 100) (by decide) rfl ?_
                refine Ev.goto' (pc' := 4) dX2_tellDensitiesAnew_100 (by decide) ?_
                first | (rw [hDen_n (hfk.trans eQ.symm)]; exact ih _ (by omega) (k + 1) _ _ _ rfl (by omega) (same hfk)) | exact ih _ (by omega) (k + 1) _ _ _ rfl (by omega) (by first | exact up (Classical.byContradiction fun z => c69 (hx.trans (bi_f z))) | exact cont 1 (fun z => by rw [bi_t z] at hx; omega) (bi_t c80).symm | exact cont 0 (fun z => by rw [bi_t z] at hx; omega) (bi_f (fun z => z c80)).symm)
              · refine Ev.iconst dX2_tellDensitiesAnew_83 (Eq.refl 84) ?_
                refine Ev.goto' (pc' := 88) dX2_tellDensitiesAnew_84 (by decide) ?_
                refine Ev.is2 dX2_tellDensitiesAnew_88 (Eq.refl 89) (by decide) rfl ?_
                refine Ev.aload_n dX2_tellDensitiesAnew_89 (Eq.refl 90) rfl ?_
                refine Ev.getR dX2_tellDensitiesAnew_90 (Eq.refl 93) fg_X2_24 (lyN0 (by assumption)) rfl (rN10 hR (by assumption)) ?_
                refine Ev.iload_n dX2_tellDensitiesAnew_93 (Eq.refl 94) rfl ?_
                refine Ev.iload dX2_tellDensitiesAnew_94 (Eq.refl 96) rfl ?_
                refine Ev.iastore dX2_tellDensitiesAnew_96 (Eq.refl 97) (lyN5 (by assumption)) rfl (by omega) (by decide) (by first | with_reducible exact Int.toNat_natCast _ | exact Eq.refl _) ?_
                rw [hDen_s]
                refine Ev.ii3 dX2_tellDensitiesAnew_97 (Eq.refl 100) (by decide) rfl ?_
                refine Ev.goto' (pc' := 4) dX2_tellDensitiesAnew_100 (by decide) ?_
                first | (rw [hDen_n (hfk.trans eQ.symm)]; exact ih _ (by omega) (k + 1) _ _ _ rfl (by omega) (same hfk)) | exact ih _ (by omega) (k + 1) _ _ _ rfl (by omega) (by first | exact up (Classical.byContradiction fun z => c69 (hx.trans (bi_f z))) | exact cont 1 (fun z => by rw [bi_t z] at hx; omega) (bi_t c80).symm | exact cont 0 (fun z => by rw [bi_t z] at hx; omega) (bi_f (fun z => z c80)).symm)
          · have hfk : f k = vQ (cV h n) k := by rw [← hf]; exact if_neg (fun z => z.2 c26)
            refine Ev.goto' (pc' := 97) dX2_tellDensitiesAnew_29 (by decide) ?_
            refine Ev.ii3 dX2_tellDensitiesAnew_97 (Eq.refl 100) (by decide) rfl ?_
            refine Ev.goto' (pc' := 4) dX2_tellDensitiesAnew_100 (by decide) ?_
            first | (rw [hDen_n (hfk.trans eQ.symm)]; exact ih _ (by omega) (k + 1) _ _ _ rfl (by omega) (same hfk)) | exact ih _ (by omega) (k + 1) _ _ _ rfl (by omega) (by first | exact up (Classical.byContradiction fun z => c69 (hx.trans (bi_f z))) | exact cont 1 (fun z => by rw [bi_t z] at hx; omega) (bi_t c80).symm | exact cont 0 (fun z => by rw [bi_t z] at hx; omega) (bi_f (fun z => z c80)).symm)
  refine Ev.iconst dX2_tellDensitiesAnew_0 (Eq.refl 1) ?_
  refine Ev.is2 dX2_tellDensitiesAnew_1 (Eq.refl 2) (by decide) rfl ?_
  refine Ev.iconst dX2_tellDensitiesAnew_2 (Eq.refl 3) ?_
  refine Ev.is3 dX2_tellDensitiesAnew_3 (Eq.refl 4) (by decide) rfl ?_
  have := LOOP _ 0 0 none none rfl (Nat.zero_le _) (bi_f (fun ⟨i, hi, _⟩ => by omega)).symm
  rw [hDen_0] at this
  exact this
