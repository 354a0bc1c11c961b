/-! The model: joint, exact, bears, strand, slack, miss, greatest, count -/
theorem m_common {h : Hp} {x : Int} {y : Nat} (hx : -9000000000000000000 < x ∧ x < 9000000000000000000) (hy : 0 < y ∧ y < 9000000000000000000) : Ev mX8_common 0 0 (entL [jv x, jv (y : Int)] 10) [] h (PEJ ((Nat.gcd x.natAbs y : Nat) : Int) h) := by
  show Ev mX8_common 0 0 [some (jv x), none, some (jv (y : Int)), none, none, none, none, none, none, none] [] h _
  have LOOP : ∀ (m a b : Nat) (w : Option Value), b = m → a < 9000000000000000000 → b < 9000000000000000000 → Nat.gcd a b = Nat.gcd x.natAbs y → Ev mX8_common 0 17 [some (jv x), none, some (jv (y : Int)), none, some (jv (a : Int)), none, some (jv (b : Int)), none, w, none] [] h (PEJ ((Nat.gcd x.natAbs y : Nat) : Int) h) := by
    intro m
    induction m using Nat.strongRecOn with
    | ind m ih =>
      intro a b w hm ha hb hg
      by_cases b0 : b = 0
      · subst b0
        rw [Nat.gcd_zero_right] at hg
        refine Ev.lload dX8_common_17 (Eq.refl 19) rfl ?_
        refine Ev.lconst0 dX8_common_19 (Eq.refl 20) ?_
        refine Ev.ifl_eq (tgt := 42) dX8_common_20 (Eq.refl 21) dX8_common_21 (Eq.refl 24) (by decide) ⟨by omega, by omega⟩ ⟨by omega, by omega⟩ (fun c20 => ?_) (fun c20 => ?_)
        · refine Ev.lload dX8_common_42 (Eq.refl 44) rfl ?_
          exact Ev.lret dX8_common_44 rfl (⟨_, rfl, by rw [hg], rfl⟩)
        · omega
      · have em : ((a : Int).tmod (b : Int)) = ((a % b : Nat) : Int) := by rw [Int.tmod_eq_emod_of_nonneg (by omega)]; push_cast; rfl
        have lm : a % b < b := Nat.mod_lt a (by omega)
        have g1 : Nat.gcd b (a % b) = Nat.gcd x.natAbs y := by rw [← hg, Nat.gcd_comm b, ← Nat.gcd_rec, Nat.gcd_comm]
        refine Ev.lload dX8_common_17 (Eq.refl 19) rfl ?_
        refine Ev.lconst0 dX8_common_19 (Eq.refl 20) ?_
        refine Ev.ifl_eq (tgt := 42) dX8_common_20 (Eq.refl 21) dX8_common_21 (Eq.refl 24) (by decide) ⟨by omega, by omega⟩ ⟨by omega, by omega⟩ (fun c20 => ?_) (fun c20 => ?_)
        · omega
        · refine Ev.lload dX8_common_24 (Eq.refl 26) rfl ?_
          refine Ev.lload dX8_common_26 (Eq.refl 28) rfl ?_
          refine Ev.lrem dX8_common_28 (Eq.refl 29) ⟨by omega, by omega⟩ ⟨by omega, by omega⟩ (by omega) ?_
          rw [em]
          refine Ev.ls8 dX8_common_29 (Eq.refl 31) (by decide) rfl ?_
          refine Ev.lload dX8_common_31 (Eq.refl 33) rfl ?_
          refine Ev.ls4 dX8_common_33 (Eq.refl 35) (by decide) rfl ?_
          refine Ev.lload dX8_common_35 (Eq.refl 37) rfl ?_
          refine Ev.ls6 dX8_common_37 (Eq.refl 39) (by decide) rfl ?_
          refine Ev.goto' (pc' := 17) dX8_common_39 (by decide) ?_
          exact ih (a % b) (by omega) b (a % b) _ rfl hb (by omega) g1
  refine Ev.lload_n dX8_common_0 (Eq.refl 1) rfl ?_
  refine Ev.lconst0 dX8_common_1 (Eq.refl 2) ?_
  refine Ev.ifl_ge (tgt := 11) dX8_common_2 (Eq.refl 3) dX8_common_3 (Eq.refl 6) (by decide) ⟨by omega, by omega⟩ ⟨by omega, by omega⟩ (fun c2 => ?_) (fun c2 => ?_)
  · refine Ev.lload_n dX8_common_11 (Eq.refl 12) rfl ?_
    refine Ev.ls4 dX8_common_12 (Eq.refl 14) (by decide) rfl ?_
    refine Ev.lload_n dX8_common_14 (Eq.refl 15) rfl ?_
    refine Ev.ls6 dX8_common_15 (Eq.refl 17) (by decide) rfl ?_
    first | (rw [show -x = ((x.natAbs : Nat) : Int) by omega]; exact LOOP _ _ _ _ rfl (by omega) (by omega) rfl) | (have L := LOOP y x.natAbs y none rfl (by omega) (by omega) rfl; rw [show ((x.natAbs : Nat) : Int) = x by omega] at L; exact L)
  · refine Ev.lload_n dX8_common_6 (Eq.refl 7) rfl ?_
    refine Ev.lneg dX8_common_7 (Eq.refl 8) ?_
    refine Ev.goto' (pc' := 12) dX8_common_8 (by decide) ?_
    refine Ev.ls4 dX8_common_12 (Eq.refl 14) (by decide) rfl ?_
    refine Ev.lload_n dX8_common_14 (Eq.refl 15) rfl ?_
    refine Ev.ls6 dX8_common_15 (Eq.refl 17) (by decide) rfl ?_
    first | (rw [show -x = ((x.natAbs : Nat) : Int) by omega]; exact LOOP _ _ _ _ rfl (by omega) (by omega) rfl) | (have L := LOOP y x.natAbs y none rfl (by omega) (by omega) rfl; rw [show ((x.natAbs : Nat) : Int) = x by omega] at L; exact L)
section MQ2
variable {h : Hp} {s : St}
theorem m_miss (I : MInv h s) : Ev mX8_miss 5 0 (entL [.ref 0] 1) [] h (PM (aMiss s)) := by
  show Ev mX8_miss 5 0 [some (.ref 0)] [] h _
  have TAIL : ∀ h, MInv h s → Ev mX8_miss 5 5 [some (.ref 0)] [] h (PM (aMiss s)) := by
    intro h I
    have B := I.B
    by_cases ha : aH (sV s) (hgV (sV s))
    · have ea : aMiss s = (missV (sV s), s) := Prod.ext (cif_t ha) rfl
      refine Ev.aload_n dX8_miss_5 (Eq.refl 6) rfl ?_
      refine Ev.cv0I dX8_miss_6 (Eq.refl 9) cw_X8_202 (Nat.le_of_ble_eq_true rfl) (by decide) rfl rfl rfl (Nat.le_of_ble_eq_true rfl) (q_lays B) (fun x6 g6 hp6 => ?_)
      have M := MS.of B hp6 ha
      obtain ⟨hK, rfl, h7, _⟩ := hp6
      refine Ev.if_eqB (tgt := 19) dX8_miss_9 (Eq.refl 12) (by decide) (fun c9 => ?_) (fun c9 => ?_)
      · exact absurd ha c9
      · refine Ev.aload_n dX8_miss_12 (Eq.refl 13) rfl ?_
        refine Ev.cv0E dX8_miss_13 (Eq.refl 16) cw_X8_221 (Nat.le_of_ble_eq_true rfl) (by decide) rfl rfl rfl (Nat.le_of_ble_eq_true rfl) (q_missing M) ?_
        refine Ev.goto' (pc' := 21) dX8_miss_16 (by decide) ?_
        exact Ev.iret dX8_miss_21 rfl ((by rw [ea]; exact ⟨_, rfl, rfl, I.k hK.k⟩))
    · have ea : aMiss s = (-2, s) := Prod.ext (cif_f ha) rfl
      refine Ev.aload_n dX8_miss_5 (Eq.refl 6) rfl ?_
      refine Ev.cv0I dX8_miss_6 (Eq.refl 9) cw_X8_202 (Nat.le_of_ble_eq_true rfl) (by decide) rfl rfl rfl (Nat.le_of_ble_eq_true rfl) (q_lays B) (fun x6 g6 hp6 => ?_)
      obtain ⟨hK, rfl, h7, _⟩ := hp6
      refine Ev.if_eqB (tgt := 19) dX8_miss_9 (Eq.refl 12) (by decide) (fun c9 => ?_) (fun c9 => ?_)
      · refine Ev.bipush dX8_miss_19 (Eq.refl 21) (by decide) ?_
        exact Ev.iret dX8_miss_21 rfl ((by rw [ea]; exact ⟨_, rfl, rfl, I.k hK.k⟩))
      · exact absurd c9 ha
  refine Ev.aload_n dX8_miss_0 (Eq.refl 1) rfl ?_
  refine Ev.iconst dX8_miss_1 (Eq.refl 2) ?_
  refine Ev.putI dX8_miss_2 (Eq.refl 5) fp_X8_69 rfl rfl (Or.inl rfl) ?_
  exact TAIL _ (I.k (Mk.rf.w (by omega)))
theorem m_slack (I : MInv h s) : Ev mX8_slack 5 0 (entL [.ref 0] 3) [] h (PM (aSlack s)) := by
  show Ev mX8_slack 5 0 [some (.ref 0), none, none] [] h _
  have TAIL : ∀ h, MInv h s → Ev mX8_slack 5 5 [some (.ref 0), none, none] [] h (PM (aSlack s)) := by
    intro h I
    have B := I.B
    have hv := B.vk
    have hS14 := hv.2.1
    by_cases ha : aH (sV s) (hgV (sV s))
    · have ea : aSlack s = (bits (fun i => i < vS (sV s) ∧ vH (sV s) i = true ∧ len (sV s) i < 100 * vW (sV s) i), s) := Prod.ext (cif_t ha) rfl
      have LOOP : ∀ (g : Hp), MInv g s → MS g (sV s) → ∀ (m k : Nat) (x : Int), vS (sV s) - k = m → k ≤ vS (sV s) → (0 ≤ x ∧ x < 2 ^ k ∧ ∀ i, tb x i ↔ i < k ∧ (vH (sV s) i = true ∧ len (sV s) i < 100 * vW (sV s) i)) → Ev mX8_slack 5 19 [some (.ref 0), some (iv x), some (iv (k : Int))] [] g (PM (aSlack s)) := by
        intro g Ig M m
        have Bg := M.1
        have hR := Bg.1
        have e1 := Bg.s1
        induction m using Nat.strongRecOn with
        | ind m ih =>
          intro k x hm hk hx
          have hx0 := hx.1
          by_cases hk2 : k < vS (sV s)
          · have b := hv.2.2.2.1 k hk2
            have hl := len_b hv ha hk2
            have nx : ¬ (vH (sV s) k = true ∧ len (sV s) k < 100 * vW (sV s) k) → Ev mX8_slack 5 19 [some (.ref 0), some (iv x), some (iv ((k : Int) + 1))] [] g (PM (aSlack s)) := fun q => ih _ (by omega) (k + 1) x rfl (by omega) (isB_n (P := fun i => vH (sV s) i = true ∧ len (sV s) i < 100 * vW (sV s) i) hx q)
            have eo := or0 hx0
            refine Ev.iload_n dX8_slack_19 (Eq.refl 20) rfl ?_
            refine Ev.aload_n dX8_slack_20 (Eq.refl 21) rfl ?_
            refine Ev.getR dX8_slack_21 (Eq.refl 24) fg_X8_13 rfl rfl (rX8_3 hR) ?_
            refine Ev.iconst dX8_slack_24 (Eq.refl 25) ?_
            refine Ev.iaload dX8_slack_25 (Eq.refl 26) rfl rfl (by omega) (by decide) (show (1 : Int).toNat = 1 from rfl) ?_
            rw [e1]
            refine Ev.icmp_ge (tgt := 70) dX8_slack_26 (Eq.refl 29) (by decide) ⟨by omega, by omega⟩ ⟨by omega, by omega⟩ (fun c26 => ?_) (fun c26 => ?_)
            · omega
            · refine Ev.iload_n dX8_slack_29 (Eq.refl 30) rfl ?_
              refine Ev.aload_n dX8_slack_30 (Eq.refl 31) rfl ?_
              refine Ev.iload_n dX8_slack_31 (Eq.refl 32) rfl ?_
              refine Ev.cv1E dX8_slack_32 (Eq.refl 35) cw_X8_178 (Nat.le_of_ble_eq_true rfl) (by decide) rfl rfl rfl (Nat.le_of_ble_eq_true rfl) (q_asked Bg hk2) ?_
              refine Ev.if_eqB (tgt := 61) dX8_slack_35 (Eq.refl 38) (by decide) (fun c35 => ?_) (fun c35 => ?_)
              · have q : ¬ (vH (sV s) k = true ∧ len (sV s) k < 100 * vW (sV s) k) := fun z => c35 ⟨z.1, by have := z.2; omega⟩
                refine Ev.iconst dX8_slack_61 (Eq.refl 62) ?_
                refine Ev.ior dX8_slack_62 (Eq.refl 63) (b_or (by first | exact Int.natCast_nonneg _ | exact shl0 | omega) (by first | exact Int.natCast_nonneg _ | exact shl0 | omega)) ?_
                refine Ev.is1 dX8_slack_63 (Eq.refl 64) (by decide) rfl ?_
                refine Ev.ii2 dX8_slack_64 (Eq.refl 67) (by decide) rfl ?_
                refine Ev.goto' (pc' := 19) dX8_slack_67 (by decide) ?_
                first | exact ih _ (by omega) (k + 1) _ rfl (by omega) (isB_s (P := fun i => vH (sV s) i = true ∧ len (sV s) i < 100 * vW (sV s) i) hx ⟨c35.1, by omega⟩) | (rw [eo]; exact nx q)
              · refine Ev.aload_n dX8_slack_38 (Eq.refl 39) rfl ?_
                refine Ev.iload_n dX8_slack_39 (Eq.refl 40) rfl ?_
                refine Ev.cv1E dX8_slack_40 (Eq.refl 43) cw_X8_174 (Nat.le_of_ble_eq_true rfl) (by decide) rfl rfl rfl (Nat.le_of_ble_eq_true rfl) (q_len M hk2) ?_
                refine Ev.bipush dX8_slack_43 (Eq.refl 45) (by decide) ?_
                refine Ev.aload_n dX8_slack_45 (Eq.refl 46) rfl ?_
                refine Ev.iload_n dX8_slack_46 (Eq.refl 47) rfl ?_
                refine Ev.iconst dX8_slack_47 (Eq.refl 48) ?_
                refine Ev.cv2E dX8_slack_48 (Eq.refl 51) cw_X8_131 (Nat.le_of_ble_eq_true rfl) (by decide) rfl rfl rfl (Nat.le_of_ble_eq_true rfl) (q_ofW Bg hk2) ?_
                refine Ev.imul dX8_slack_51 (Eq.refl 52) ?_
                refine Ev.icmp_ge (tgt := 61) dX8_slack_52 (Eq.refl 55) (by decide) ⟨by omega, by omega⟩ ⟨by omega, by omega⟩ (fun c52 => ?_) (fun c52 => ?_)
                · have q : ¬ (vH (sV s) k = true ∧ len (sV s) k < 100 * vW (sV s) k) := fun z => by have := z.2; omega
                  refine Ev.iconst dX8_slack_61 (Eq.refl 62) ?_
                  refine Ev.ior dX8_slack_62 (Eq.refl 63) (b_or (by first | exact Int.natCast_nonneg _ | exact shl0 | omega) (by first | exact Int.natCast_nonneg _ | exact shl0 | omega)) ?_
                  refine Ev.is1 dX8_slack_63 (Eq.refl 64) (by decide) rfl ?_
                  refine Ev.ii2 dX8_slack_64 (Eq.refl 67) (by decide) rfl ?_
                  refine Ev.goto' (pc' := 19) dX8_slack_67 (by decide) ?_
                  first | exact ih _ (by omega) (k + 1) _ rfl (by omega) (isB_s (P := fun i => vH (sV s) i = true ∧ len (sV s) i < 100 * vW (sV s) i) hx ⟨c35.1, by omega⟩) | (rw [eo]; exact nx q)
                · refine Ev.iconst dX8_slack_55 (Eq.refl 56) ?_
                  refine Ev.iload_n dX8_slack_56 (Eq.refl 57) rfl ?_
                  refine Ev.ishl dX8_slack_57 (Eq.refl 58) (b_shl (by omega) (by omega) (by omega) (shl1 (by omega))) ?_
                  rw [Int.toNat_natCast]
                  refine Ev.goto' (pc' := 62) dX8_slack_58 (by decide) ?_
                  refine Ev.ior dX8_slack_62 (Eq.refl 63) (b_or (by first | exact Int.natCast_nonneg _ | exact shl0 | omega) (by first | exact Int.natCast_nonneg _ | exact shl0 | omega)) ?_
                  refine Ev.is1 dX8_slack_63 (Eq.refl 64) (by decide) rfl ?_
                  refine Ev.ii2 dX8_slack_64 (Eq.refl 67) (by decide) rfl ?_
                  refine Ev.goto' (pc' := 19) dX8_slack_67 (by decide) ?_
                  first | exact ih _ (by omega) (k + 1) _ rfl (by omega) (isB_s (P := fun i => vH (sV s) i = true ∧ len (sV s) i < 100 * vW (sV s) i) hx ⟨c35.1, by omega⟩) | (rw [eo]; exact nx q)
          · have e : k = vS (sV s) := by omega
            subst e
            refine Ev.iload_n dX8_slack_19 (Eq.refl 20) rfl ?_
            refine Ev.aload_n dX8_slack_20 (Eq.refl 21) rfl ?_
            refine Ev.getR dX8_slack_21 (Eq.refl 24) fg_X8_13 rfl rfl (rX8_3 hR) ?_
            refine Ev.iconst dX8_slack_24 (Eq.refl 25) ?_
            refine Ev.iaload dX8_slack_25 (Eq.refl 26) rfl rfl (by omega) (by decide) (show (1 : Int).toNat = 1 from rfl) ?_
            rw [e1]
            refine Ev.icmp_ge (tgt := 70) dX8_slack_26 (Eq.refl 29) (by decide) ⟨by omega, by omega⟩ ⟨by omega, by omega⟩ (fun c26 => ?_) (fun c26 => ?_)
            · refine Ev.iload_n dX8_slack_70 (Eq.refl 71) rfl ?_
              exact Ev.iret dX8_slack_71 rfl ((by rw [ea]; exact ⟨_, rfl, (bits_of hx0 hx.2.2).symm, Ig⟩))
            · omega
      refine Ev.aload_n dX8_slack_5 (Eq.refl 6) rfl ?_
      refine Ev.cv0I dX8_slack_6 (Eq.refl 9) cw_X8_202 (Nat.le_of_ble_eq_true rfl) (by decide) rfl rfl rfl (Nat.le_of_ble_eq_true rfl) (q_lays B) (fun x6 g6 hp6 => ?_)
      have M := MS.of B hp6 ha
      obtain ⟨hK, rfl, h7, _⟩ := hp6
      refine Ev.if_neB (tgt := 15) dX8_slack_9 (Eq.refl 12) (by decide) (fun c9 => ?_) (fun c9 => ?_)
      · refine Ev.iconst dX8_slack_15 (Eq.refl 16) ?_
        refine Ev.is1 dX8_slack_16 (Eq.refl 17) (by decide) rfl ?_
        refine Ev.iconst dX8_slack_17 (Eq.refl 18) ?_
        refine Ev.is2 dX8_slack_18 (Eq.refl 19) (by decide) rfl ?_
        exact LOOP _ (I.k hK.k) M _ 0 0 rfl (by omega) ⟨by omega, by decide, fun s => by simp⟩
      · exact absurd ha c9
    · have ea : aSlack s = (-2, s) := Prod.ext (cif_f ha) rfl
      refine Ev.aload_n dX8_slack_5 (Eq.refl 6) rfl ?_
      refine Ev.cv0I dX8_slack_6 (Eq.refl 9) cw_X8_202 (Nat.le_of_ble_eq_true rfl) (by decide) rfl rfl rfl (Nat.le_of_ble_eq_true rfl) (q_lays B) (fun x6 g6 hp6 => ?_)
      obtain ⟨hK, rfl, h7, _⟩ := hp6
      refine Ev.if_neB (tgt := 15) dX8_slack_9 (Eq.refl 12) (by decide) (fun c9 => ?_) (fun c9 => ?_)
      · exact absurd c9 ha
      · refine Ev.bipush dX8_slack_12 (Eq.refl 14) (by decide) ?_
        exact Ev.iret dX8_slack_14 rfl ((by rw [ea]; exact ⟨_, rfl, rfl, I.k hK.k⟩))
  refine Ev.aload_n dX8_slack_0 (Eq.refl 1) rfl ?_
  refine Ev.iconst dX8_slack_1 (Eq.refl 2) ?_
  refine Ev.putI dX8_slack_2 (Eq.refl 5) fp_X8_69 rfl rfl (Or.inl rfl) ?_
  exact TAIL _ (I.k (Mk.rf.w (by omega)))
theorem grt_b {v : Nv} {w : Int} (hv : VOk v) (ha : aH v (hgV v)) : ∀ k, k ≤ vS v → (-4 ≤ (grt v w k).1 ∧ (grt v w k).1 ≤ 100) ∧ -1 ≤ (grt v w k).2 ∧ (grt v w k).2 ≤ 450000
  | 0, _ => by show (-4 ≤ (-4 : Int) ∧ (-4 : Int) ≤ 100) ∧ -1 ≤ (-1 : Int) ∧ (-1 : Int) ≤ 450000; omega
  | k + 1, hk => by
    have ih := grt_b (w := w) hv ha k (by omega)
    have hl := len_b hv ha (s := k) (by omega)
    have b := hv.2.2.2.1 k (by omega)
    have hS := hv.2.1
    have pq : 0 ≤ vQ v k * len v k ∧ vQ v k * len v k ≤ 5 * 90000 := ⟨Int.mul_nonneg (by omega) hl.1, Int.mul_le_mul (by omega) (by omega) hl.1 (by omega)⟩
    show (-4 ≤ (if vH v k = true ∧ (grt v w k).2 < gsz v w k then ((k : Int), gsz v w k) else grt v w k).1 ∧ (if vH v k = true ∧ (grt v w k).2 < gsz v w k then ((k : Int), gsz v w k) else grt v w k).1 ≤ 100) ∧ -1 ≤ (if vH v k = true ∧ (grt v w k).2 < gsz v w k then ((k : Int), gsz v w k) else grt v w k).2 ∧ (if vH v k = true ∧ (grt v w k).2 < gsz v w k then ((k : Int), gsz v w k) else grt v w k).2 ≤ 450000
    split
    · show (-4 ≤ (k : Int) ∧ (k : Int) ≤ 100) ∧ -1 ≤ gsz v w k ∧ gsz v w k ≤ 450000
      unfold gsz
      split <;> omega
    · exact ih
theorem m_greatest {w : Int} (I : MInv h s) (hw : I32 w) : Ev mX8_greatest 5 0 (entL [.ref 0, iv w] 6) [] h (PM (aGreatest s w)) := by
  show Ev mX8_greatest 5 0 [some (.ref 0), some (iv w), none, none, none, none] [] h _
  have TAIL : ∀ h, MInv h s → Ev mX8_greatest 5 5 [some (.ref 0), some (iv w), none, none, none, none] [] h (PM (aGreatest s w)) := by
    intro h I
    have B := I.B
    have hv := B.vk
    have hS14 := hv.2.1
    have i0 : I32 0 := ⟨by omega, by omega⟩
    have i1 : I32 1 := ⟨by omega, by omega⟩
    by_cases c : 0 ≤ w ∧ w ≤ 1
    · by_cases ha : aH (sV s) (hgV (sV s))
      · have ea : aGreatest s w = ((grt (sV s) w (vS (sV s))).1, s) := Prod.ext ((if_pos c).trans (cif_t ha)) rfl
        have LOOP : ∀ (g : Hp), MInv g s → MS g (sV s) → ∀ (m k : Nat) (l5 : Option Value), vS (sV s) - k = m → k ≤ vS (sV s) → Ev mX8_greatest 5 34 [some (.ref 0), some (iv w), some (iv (grt (sV s) w k).1), some (iv (grt (sV s) w k).2), some (iv (k : Int)), l5] [] g (PM (aGreatest s w)) := by
          intro g Ig M m
          have Bg := M.1
          have hR := Bg.1
          have e1 := Bg.s1
          induction m using Nat.strongRecOn with
          | ind m ih =>
            intro k l5 hm hk
            have gb := grt_b (w := w) hv ha k hk
            by_cases hk2 : k < vS (sV s)
            · have b := hv.2.2.2.1 k hk2
              have hl := len_b hv ha hk2
              have pq : 0 ≤ vQ (sV s) k * len (sV s) k ∧ vQ (sV s) k * len (sV s) k ≤ 5 * 90000 := ⟨Int.mul_nonneg (by omega) hl.1, Int.mul_le_mul (by omega) (by omega) hl.1 (by omega)⟩
              have et : vH (sV s) k = true → (grt (sV s) w k).2 < gsz (sV s) w k → grt (sV s) w (k + 1) = ((k : Int), gsz (sV s) w k) := fun z1 z2 => if_pos ⟨z1, z2⟩
              have ef : ¬ (vH (sV s) k = true ∧ (grt (sV s) w k).2 < gsz (sV s) w k) → grt (sV s) w (k + 1) = grt (sV s) w k := fun z => if_neg z
              have R := fun l5 => ih _ (by omega) (k + 1) l5 rfl (by omega)
              have eone : (1 : Int) * len (sV s) k = len (sV s) k := Int.one_mul _
              have g0 : w = 0 → gsz (sV s) w k = len (sV s) k := fun z => if_pos z
              have g1 : w ≠ 0 → gsz (sV s) w k = vQ (sV s) k * len (sV s) k := fun z => if_neg z
              have NX : ∀ (p q x : Int) (u : Option Value), (vH (sV s) k = true ∧ x = gsz (sV s) w k ∧ (grt (sV s) w k).2 < x ∧ p = (k : Int) ∧ q = x ∨ (vH (sV s) k = true ∧ x = gsz (sV s) w k ∨ ¬ vH (sV s) k = true ∧ x = -1) ∧ x ≤ (grt (sV s) w k).2 ∧ p = (grt (sV s) w k).1 ∧ q = (grt (sV s) w k).2) → Ev mX8_greatest 5 34 [some (.ref 0), some (iv w), some (iv p), some (iv q), some (iv ((k : Int) + 1)), u] [] g (PM (aGreatest s w)) := fun p q x u hh => by
                have r := R u
                rcases hh with ⟨z1, z2, z3, rfl, rfl⟩ | ⟨z1, z2, rfl, rfl⟩
                · rw [et z1 (by omega)] at r
                  rw [z2]; exact r
                · rw [ef (fun z => by rcases z1 with ⟨_, y⟩ | ⟨y, _⟩; have := z.2; omega; exact y z.1)] at r
                  exact r
              by_cases hh : vH (sV s) k = true
              · refine Ev.iload dX8_greatest_34 (Eq.refl 36) rfl ?_
                refine Ev.aload_n dX8_greatest_36 (Eq.refl 37) rfl ?_
                refine Ev.getR dX8_greatest_37 (Eq.refl 40) fg_X8_13 rfl rfl (rX8_3 hR) ?_
                refine Ev.iconst dX8_greatest_40 (Eq.refl 41) ?_
                refine Ev.iaload dX8_greatest_41 (Eq.refl 42) rfl rfl (by omega) (by decide) (show (1 : Int).toNat = 1 from rfl) ?_
                rw [e1]
                refine Ev.icmp_ge (tgt := 114) dX8_greatest_42 (Eq.refl 45) (by decide) ⟨by omega, by omega⟩ ⟨by omega, by omega⟩ (fun c42 => ?_) (fun c42 => ?_)
                · omega
                · refine Ev.aload_n dX8_greatest_45 (Eq.refl 46) rfl ?_
                  refine Ev.iload dX8_greatest_46 (Eq.refl 48) rfl ?_
                  refine Ev.cv1E dX8_greatest_48 (Eq.refl 51) cw_X8_137 (Nat.le_of_ble_eq_true rfl) (by decide) rfl rfl rfl (Nat.le_of_ble_eq_true rfl) (q_hangs Bg hk2) ?_
                  refine Ev.if_eqB (tgt := 79) dX8_greatest_51 (Eq.refl 54) (by decide) (fun c51 => ?_) (fun c51 => ?_)
                  · exact absurd hh c51
                  · refine Ev.iload_n dX8_greatest_54 (Eq.refl 55) rfl ?_
                    refine Ev.if_ne (tgt := 62) dX8_greatest_55 (Eq.refl 58) (by decide) ⟨by omega, by omega⟩ (fun c55 => ?_) (fun c55 => ?_)
                    · have gz := g1 c55
                      have gy := gz
                      refine Ev.aload_n dX8_greatest_62 (Eq.refl 63) rfl ?_
                      refine Ev.iload dX8_greatest_63 (Eq.refl 65) rfl ?_
                      refine Ev.iconst dX8_greatest_65 (Eq.refl 66) ?_
                      refine Ev.cv2E dX8_greatest_66 (Eq.refl 69) cw_X8_131 (Nat.le_of_ble_eq_true rfl) (by decide) rfl rfl rfl (Nat.le_of_ble_eq_true rfl) (q_ofQ Bg hk2) ?_
                      refine Ev.aload_n dX8_greatest_69 (Eq.refl 70) rfl ?_
                      refine Ev.iload dX8_greatest_70 (Eq.refl 72) rfl ?_
                      refine Ev.cv1E dX8_greatest_72 (Eq.refl 75) cw_X8_174 (Nat.le_of_ble_eq_true rfl) (by decide) rfl rfl rfl (Nat.le_of_ble_eq_true rfl) (q_len M hk2) ?_
                      refine Ev.imul dX8_greatest_75 (Eq.refl 76) ?_
                      have gx := gz
                      refine Ev.goto' (pc' := 80) dX8_greatest_76 (by decide) ?_
                      refine Ev.is5 dX8_greatest_80 (Eq.refl 82) (by decide) rfl ?_
                      refine Ev.iload dX8_greatest_82 (Eq.refl 84) rfl ?_
                      refine Ev.iload_n dX8_greatest_84 (Eq.refl 85) rfl ?_
                      refine Ev.icmp_le (tgt := 93) dX8_greatest_85 (Eq.refl 88) (by decide) ⟨by omega, by omega⟩ ⟨by omega, by omega⟩ (fun c85 => ?_) (fun c85 => ?_)
                      · refine Ev.iload_n dX8_greatest_93 (Eq.refl 94) rfl ?_
                        refine Ev.is2 dX8_greatest_94 (Eq.refl 95) (by decide) rfl ?_
                        refine Ev.iload dX8_greatest_95 (Eq.refl 97) rfl ?_
                        refine Ev.iload_n dX8_greatest_97 (Eq.refl 98) rfl ?_
                        refine Ev.icmp_le (tgt := 106) dX8_greatest_98 (Eq.refl 101) (by decide) ⟨by omega, by omega⟩ ⟨by omega, by omega⟩ (fun c98 => ?_) (fun c98 => ?_)
                        · refine Ev.iload_n dX8_greatest_106 (Eq.refl 107) rfl ?_
                          refine Ev.is3 dX8_greatest_107 (Eq.refl 108) (by decide) rfl ?_
                          refine Ev.ii4 dX8_greatest_108 (Eq.refl 111) (by decide) rfl ?_
                          refine Ev.goto' (pc' := 34) dX8_greatest_111 (by decide) ?_
                          first | omega | exact NX _ _ _ _ (Or.inl ⟨hh, by omega, by omega, rfl, rfl⟩) | exact NX _ _ (gsz (sV s) w k) _ (Or.inr ⟨Or.inl ⟨hh, rfl⟩, by omega, rfl, rfl⟩)
                        · refine Ev.iload dX8_greatest_101 (Eq.refl 103) rfl ?_
                          refine Ev.goto' (pc' := 107) dX8_greatest_103 (by decide) ?_
                          refine Ev.is3 dX8_greatest_107 (Eq.refl 108) (by decide) rfl ?_
                          refine Ev.ii4 dX8_greatest_108 (Eq.refl 111) (by decide) rfl ?_
                          refine Ev.goto' (pc' := 34) dX8_greatest_111 (by decide) ?_
                          first | omega | exact NX _ _ _ _ (Or.inl ⟨hh, by omega, by omega, rfl, rfl⟩) | exact NX _ _ (gsz (sV s) w k) _ (Or.inr ⟨Or.inl ⟨hh, rfl⟩, by omega, rfl, rfl⟩)
                      · refine Ev.iload dX8_greatest_88 (Eq.refl 90) rfl ?_
                        refine Ev.goto' (pc' := 94) dX8_greatest_90 (by decide) ?_
                        refine Ev.is2 dX8_greatest_94 (Eq.refl 95) (by decide) rfl ?_
                        refine Ev.iload dX8_greatest_95 (Eq.refl 97) rfl ?_
                        refine Ev.iload_n dX8_greatest_97 (Eq.refl 98) rfl ?_
                        refine Ev.icmp_le (tgt := 106) dX8_greatest_98 (Eq.refl 101) (by decide) ⟨by omega, by omega⟩ ⟨by omega, by omega⟩ (fun c98 => ?_) (fun c98 => ?_)
                        · refine Ev.iload_n dX8_greatest_106 (Eq.refl 107) rfl ?_
                          refine Ev.is3 dX8_greatest_107 (Eq.refl 108) (by decide) rfl ?_
                          refine Ev.ii4 dX8_greatest_108 (Eq.refl 111) (by decide) rfl ?_
                          refine Ev.goto' (pc' := 34) dX8_greatest_111 (by decide) ?_
                          first | omega | exact NX _ _ _ _ (Or.inl ⟨hh, by omega, by omega, rfl, rfl⟩) | exact NX _ _ (gsz (sV s) w k) _ (Or.inr ⟨Or.inl ⟨hh, rfl⟩, by omega, rfl, rfl⟩)
                        · refine Ev.iload dX8_greatest_101 (Eq.refl 103) rfl ?_
                          refine Ev.goto' (pc' := 107) dX8_greatest_103 (by decide) ?_
                          refine Ev.is3 dX8_greatest_107 (Eq.refl 108) (by decide) rfl ?_
                          refine Ev.ii4 dX8_greatest_108 (Eq.refl 111) (by decide) rfl ?_
                          refine Ev.goto' (pc' := 34) dX8_greatest_111 (by decide) ?_
                          first | omega | exact NX _ _ _ _ (Or.inl ⟨hh, by omega, by omega, rfl, rfl⟩) | exact NX _ _ (gsz (sV s) w k) _ (Or.inr ⟨Or.inl ⟨hh, rfl⟩, by omega, rfl, rfl⟩)
                    · have gz := g0 c55
                      have gy := eone.trans gz.symm
                      refine Ev.iconst dX8_greatest_58 (Eq.refl 59) ?_
                      refine Ev.goto' (pc' := 69) dX8_greatest_59 (by decide) ?_
                      refine Ev.aload_n dX8_greatest_69 (Eq.refl 70) rfl ?_
                      refine Ev.iload dX8_greatest_70 (Eq.refl 72) rfl ?_
                      refine Ev.cv1E dX8_greatest_72 (Eq.refl 75) cw_X8_174 (Nat.le_of_ble_eq_true rfl) (by decide) rfl rfl rfl (Nat.le_of_ble_eq_true rfl) (q_len M hk2) ?_
                      refine Ev.imul dX8_greatest_75 (Eq.refl 76) ?_
                      have gx := gz
                      refine Ev.goto' (pc' := 80) dX8_greatest_76 (by decide) ?_
                      refine Ev.is5 dX8_greatest_80 (Eq.refl 82) (by decide) rfl ?_
                      refine Ev.iload dX8_greatest_82 (Eq.refl 84) rfl ?_
                      refine Ev.iload_n dX8_greatest_84 (Eq.refl 85) rfl ?_
                      refine Ev.icmp_le (tgt := 93) dX8_greatest_85 (Eq.refl 88) (by decide) ⟨by omega, by omega⟩ ⟨by omega, by omega⟩ (fun c85 => ?_) (fun c85 => ?_)
                      · refine Ev.iload_n dX8_greatest_93 (Eq.refl 94) rfl ?_
                        refine Ev.is2 dX8_greatest_94 (Eq.refl 95) (by decide) rfl ?_
                        refine Ev.iload dX8_greatest_95 (Eq.refl 97) rfl ?_
                        refine Ev.iload_n dX8_greatest_97 (Eq.refl 98) rfl ?_
                        refine Ev.icmp_le (tgt := 106) dX8_greatest_98 (Eq.refl 101) (by decide) ⟨by omega, by omega⟩ ⟨by omega, by omega⟩ (fun c98 => ?_) (fun c98 => ?_)
                        · refine Ev.iload_n dX8_greatest_106 (Eq.refl 107) rfl ?_
                          refine Ev.is3 dX8_greatest_107 (Eq.refl 108) (by decide) rfl ?_
                          refine Ev.ii4 dX8_greatest_108 (Eq.refl 111) (by decide) rfl ?_
                          refine Ev.goto' (pc' := 34) dX8_greatest_111 (by decide) ?_
                          first | omega | exact NX _ _ _ _ (Or.inl ⟨hh, by omega, by omega, rfl, rfl⟩) | exact NX _ _ (gsz (sV s) w k) _ (Or.inr ⟨Or.inl ⟨hh, rfl⟩, by omega, rfl, rfl⟩)
                        · refine Ev.iload dX8_greatest_101 (Eq.refl 103) rfl ?_
                          refine Ev.goto' (pc' := 107) dX8_greatest_103 (by decide) ?_
                          refine Ev.is3 dX8_greatest_107 (Eq.refl 108) (by decide) rfl ?_
                          refine Ev.ii4 dX8_greatest_108 (Eq.refl 111) (by decide) rfl ?_
                          refine Ev.goto' (pc' := 34) dX8_greatest_111 (by decide) ?_
                          first | omega | exact NX _ _ _ _ (Or.inl ⟨hh, by omega, by omega, rfl, rfl⟩) | exact NX _ _ (gsz (sV s) w k) _ (Or.inr ⟨Or.inl ⟨hh, rfl⟩, by omega, rfl, rfl⟩)
                      · refine Ev.iload dX8_greatest_88 (Eq.refl 90) rfl ?_
                        refine Ev.goto' (pc' := 94) dX8_greatest_90 (by decide) ?_
                        refine Ev.is2 dX8_greatest_94 (Eq.refl 95) (by decide) rfl ?_
                        refine Ev.iload dX8_greatest_95 (Eq.refl 97) rfl ?_
                        refine Ev.iload_n dX8_greatest_97 (Eq.refl 98) rfl ?_
                        refine Ev.icmp_le (tgt := 106) dX8_greatest_98 (Eq.refl 101) (by decide) ⟨by omega, by omega⟩ ⟨by omega, by omega⟩ (fun c98 => ?_) (fun c98 => ?_)
                        · refine Ev.iload_n dX8_greatest_106 (Eq.refl 107) rfl ?_
                          refine Ev.is3 dX8_greatest_107 (Eq.refl 108) (by decide) rfl ?_
                          refine Ev.ii4 dX8_greatest_108 (Eq.refl 111) (by decide) rfl ?_
                          refine Ev.goto' (pc' := 34) dX8_greatest_111 (by decide) ?_
                          first | omega | exact NX _ _ _ _ (Or.inl ⟨hh, by omega, by omega, rfl, rfl⟩) | exact NX _ _ (gsz (sV s) w k) _ (Or.inr ⟨Or.inl ⟨hh, rfl⟩, by omega, rfl, rfl⟩)
                        · refine Ev.iload dX8_greatest_101 (Eq.refl 103) rfl ?_
                          refine Ev.goto' (pc' := 107) dX8_greatest_103 (by decide) ?_
                          refine Ev.is3 dX8_greatest_107 (Eq.refl 108) (by decide) rfl ?_
                          refine Ev.ii4 dX8_greatest_108 (Eq.refl 111) (by decide) rfl ?_
                          refine Ev.goto' (pc' := 34) dX8_greatest_111 (by decide) ?_
                          first | omega | exact NX _ _ _ _ (Or.inl ⟨hh, by omega, by omega, rfl, rfl⟩) | exact NX _ _ (gsz (sV s) w k) _ (Or.inr ⟨Or.inl ⟨hh, rfl⟩, by omega, rfl, rfl⟩)
              · refine Ev.iload dX8_greatest_34 (Eq.refl 36) rfl ?_
                refine Ev.aload_n dX8_greatest_36 (Eq.refl 37) rfl ?_
                refine Ev.getR dX8_greatest_37 (Eq.refl 40) fg_X8_13 rfl rfl (rX8_3 hR) ?_
                refine Ev.iconst dX8_greatest_40 (Eq.refl 41) ?_
                refine Ev.iaload dX8_greatest_41 (Eq.refl 42) rfl rfl (by omega) (by decide) (show (1 : Int).toNat = 1 from rfl) ?_
                rw [e1]
                refine Ev.icmp_ge (tgt := 114) dX8_greatest_42 (Eq.refl 45) (by decide) ⟨by omega, by omega⟩ ⟨by omega, by omega⟩ (fun c42 => ?_) (fun c42 => ?_)
                · omega
                · refine Ev.aload_n dX8_greatest_45 (Eq.refl 46) rfl ?_
                  refine Ev.iload dX8_greatest_46 (Eq.refl 48) rfl ?_
                  refine Ev.cv1E dX8_greatest_48 (Eq.refl 51) cw_X8_137 (Nat.le_of_ble_eq_true rfl) (by decide) rfl rfl rfl (Nat.le_of_ble_eq_true rfl) (q_hangs Bg hk2) ?_
                  refine Ev.if_eqB (tgt := 79) dX8_greatest_51 (Eq.refl 54) (by decide) (fun c51 => ?_) (fun c51 => ?_)
                  · refine Ev.iconst dX8_greatest_79 (Eq.refl 80) ?_
                    refine Ev.is5 dX8_greatest_80 (Eq.refl 82) (by decide) rfl ?_
                    refine Ev.iload dX8_greatest_82 (Eq.refl 84) rfl ?_
                    refine Ev.iload_n dX8_greatest_84 (Eq.refl 85) rfl ?_
                    refine Ev.icmp_le (tgt := 93) dX8_greatest_85 (Eq.refl 88) (by decide) ⟨by omega, by omega⟩ ⟨by omega, by omega⟩ (fun c85 => ?_) (fun c85 => ?_)
                    · refine Ev.iload_n dX8_greatest_93 (Eq.refl 94) rfl ?_
                      refine Ev.is2 dX8_greatest_94 (Eq.refl 95) (by decide) rfl ?_
                      refine Ev.iload dX8_greatest_95 (Eq.refl 97) rfl ?_
                      refine Ev.iload_n dX8_greatest_97 (Eq.refl 98) rfl ?_
                      refine Ev.icmp_le (tgt := 106) dX8_greatest_98 (Eq.refl 101) (by decide) ⟨by omega, by omega⟩ ⟨by omega, by omega⟩ (fun c98 => ?_) (fun c98 => ?_)
                      · refine Ev.iload_n dX8_greatest_106 (Eq.refl 107) rfl ?_
                        refine Ev.is3 dX8_greatest_107 (Eq.refl 108) (by decide) rfl ?_
                        refine Ev.ii4 dX8_greatest_108 (Eq.refl 111) (by decide) rfl ?_
                        refine Ev.goto' (pc' := 34) dX8_greatest_111 (by decide) ?_
                        exact NX _ _ (-1) _ (Or.inr ⟨Or.inr ⟨hh, rfl⟩, by omega, rfl, rfl⟩)
                      · omega
                    · omega
                  · exact absurd c51 hh
            · have e : k = vS (sV s) := by omega
              subst e
              refine Ev.iload dX8_greatest_34 (Eq.refl 36) rfl ?_
              refine Ev.aload_n dX8_greatest_36 (Eq.refl 37) rfl ?_
              refine Ev.getR dX8_greatest_37 (Eq.refl 40) fg_X8_13 rfl rfl (rX8_3 hR) ?_
              refine Ev.iconst dX8_greatest_40 (Eq.refl 41) ?_
              refine Ev.iaload dX8_greatest_41 (Eq.refl 42) rfl rfl (by omega) (by decide) (show (1 : Int).toNat = 1 from rfl) ?_
              rw [e1]
              refine Ev.icmp_ge (tgt := 114) dX8_greatest_42 (Eq.refl 45) (by decide) ⟨by omega, by omega⟩ ⟨by omega, by omega⟩ (fun c42 => ?_) (fun c42 => ?_)
              · refine Ev.iload_n dX8_greatest_114 (Eq.refl 115) rfl ?_
                exact Ev.iret dX8_greatest_115 rfl ((by rw [ea]; exact ⟨_, rfl, rfl, Ig⟩))
              · omega
        refine Ev.iload_n dX8_greatest_5 (Eq.refl 6) rfl ?_
        refine Ev.iconst dX8_greatest_6 (Eq.refl 7) ?_
        refine Ev.iconst dX8_greatest_7 (Eq.refl 8) ?_
        refine Ev.cs3E dX8_greatest_8 (Eq.refl 11) cw_X8_73 (Nat.le_of_ble_eq_true rfl) (by decide) rfl (Nat.le_of_ble_eq_true rfl) (m_in (by assumption) (by assumption) (by assumption)) ?_
        refine Ev.if_neB (tgt := 16) dX8_greatest_11 (Eq.refl 14) (by decide) (fun c11 => ?_) (fun c11 => ?_)
        · refine Ev.aload_n dX8_greatest_16 (Eq.refl 17) rfl ?_
          refine Ev.cv0I dX8_greatest_17 (Eq.refl 20) cw_X8_202 (Nat.le_of_ble_eq_true rfl) (by decide) rfl rfl rfl (Nat.le_of_ble_eq_true rfl) (q_lays B) (fun x17 g17 hp17 => ?_)
          have M := MS.of B hp17 ha
          obtain ⟨hK, rfl, h7, _⟩ := hp17
          refine Ev.if_neB (tgt := 26) dX8_greatest_20 (Eq.refl 23) (by decide) (fun c20 => ?_) (fun c20 => ?_)
          · refine Ev.bipush dX8_greatest_26 (Eq.refl 28) (by decide) ?_
            refine Ev.is2 dX8_greatest_28 (Eq.refl 29) (by decide) rfl ?_
            refine Ev.iconst dX8_greatest_29 (Eq.refl 30) ?_
            refine Ev.is3 dX8_greatest_30 (Eq.refl 31) (by decide) rfl ?_
            refine Ev.iconst dX8_greatest_31 (Eq.refl 32) ?_
            refine Ev.is4 dX8_greatest_32 (Eq.refl 34) (by decide) rfl ?_
            exact LOOP _ (I.k hK.k) M _ 0 _ rfl (by omega)
          · exact absurd ha c20
        · exact absurd c c11
      · have ea : aGreatest s w = (-2, s) := Prod.ext ((if_pos c).trans (cif_f ha)) rfl
        refine Ev.iload_n dX8_greatest_5 (Eq.refl 6) rfl ?_
        refine Ev.iconst dX8_greatest_6 (Eq.refl 7) ?_
        refine Ev.iconst dX8_greatest_7 (Eq.refl 8) ?_
        refine Ev.cs3E dX8_greatest_8 (Eq.refl 11) cw_X8_73 (Nat.le_of_ble_eq_true rfl) (by decide) rfl (Nat.le_of_ble_eq_true rfl) (m_in (by assumption) (by assumption) (by assumption)) ?_
        refine Ev.if_neB (tgt := 16) dX8_greatest_11 (Eq.refl 14) (by decide) (fun c11 => ?_) (fun c11 => ?_)
        · refine Ev.aload_n dX8_greatest_16 (Eq.refl 17) rfl ?_
          refine Ev.cv0I dX8_greatest_17 (Eq.refl 20) cw_X8_202 (Nat.le_of_ble_eq_true rfl) (by decide) rfl rfl rfl (Nat.le_of_ble_eq_true rfl) (q_lays B) (fun x17 g17 hp17 => ?_)
          obtain ⟨hK, rfl, h7, _⟩ := hp17
          refine Ev.if_neB (tgt := 26) dX8_greatest_20 (Eq.refl 23) (by decide) (fun c20 => ?_) (fun c20 => ?_)
          · exact absurd c20 ha
          · refine Ev.bipush dX8_greatest_23 (Eq.refl 25) (by decide) ?_
            exact Ev.iret dX8_greatest_25 rfl ((by rw [ea]; exact ⟨_, rfl, rfl, I.k hK.k⟩))
        · exact absurd c c11
    · have ea : aGreatest s w = (-1, s) := Prod.ext (if_neg c) rfl
      refine Ev.iload_n dX8_greatest_5 (Eq.refl 6) rfl ?_
      refine Ev.iconst dX8_greatest_6 (Eq.refl 7) ?_
      refine Ev.iconst dX8_greatest_7 (Eq.refl 8) ?_
      refine Ev.cs3E dX8_greatest_8 (Eq.refl 11) cw_X8_73 (Nat.le_of_ble_eq_true rfl) (by decide) rfl (Nat.le_of_ble_eq_true rfl) (m_in (by assumption) (by assumption) (by assumption)) ?_
      refine Ev.if_neB (tgt := 16) dX8_greatest_11 (Eq.refl 14) (by decide) (fun c11 => ?_) (fun c11 => ?_)
      · exact absurd c11 c
      · refine Ev.iconst dX8_greatest_14 (Eq.refl 15) ?_
        exact Ev.iret dX8_greatest_15 rfl ((by rw [ea]; exact ⟨_, rfl, rfl, I⟩))
  refine Ev.aload_n dX8_greatest_0 (Eq.refl 1) rfl ?_
  refine Ev.iconst dX8_greatest_1 (Eq.refl 2) ?_
  refine Ev.putI dX8_greatest_2 (Eq.refl 5) fp_X8_69 rfl rfl (Or.inl rfl) ?_
  exact TAIL _ (I.k (Mk.rf.w (by omega)))
theorem brn_b {v : Nv} (hv : VOk v) (ha : aH v (hgV v)) {j a : Nat} (hj : j < vJ v) (h3 : a < 3) : ∀ m, m ≤ vS v → -(255000 * m) ≤ sm (brn v j a) m ∧ sm (brn v j a) m ≤ 255000 * m
  | 0, _ => by show -(255000 * ((0 : Nat) : Int)) ≤ 0 ∧ (0 : Int) ≤ 255000 * ((0 : Nat) : Int); omega
  | m + 1, hm => by
    have ih := brn_b hv ha hj h3 m (by omega)
    have q := hv.2.2.2.1 m (by omega)
    have b1 := hU_b hv ha hj h3
    have b2 := hU_b hv ha (oth_lt (j := j) hv (show m < vS v by omega)) h3
    have e : -255000 ≤ brn v j a m ∧ brn v j a m ≤ 255000 := by
      unfold brn
      by_cases z : atH v j m
      · rw [cif_t z]
        have := ab_mul (a := vQ v m) (b := hU v (oth v m j) a - hU v j a) (A := 5) (B := 51000) (by omega) (by omega)
        omega
      · rw [cif_f z]; omega
    show -(255000 * ((m + 1 : Nat) : Int)) ≤ sm (brn v j a) m + brn v j a m ∧ sm (brn v j a) m + brn v j a m ≤ 255000 * ((m + 1 : Nat) : Int)
    push_cast; omega
theorem m_bears {j a : Int} (I : MInv h s) (hj : I32 j) (hai : I32 a) : Ev mX8_bears 5 0 (entL [.ref 0, iv j, iv a] 5) [] h (PM (aBears s j a)) := by
  show Ev mX8_bears 5 0 [some (.ref 0), some (iv j), some (iv a), none, none] [] h _
  have TAIL : ∀ h, MInv h s → Ev mX8_bears 5 5 [some (.ref 0), some (iv j), some (iv a), none, none] [] h (PM (aBears s j a)) := by
    intro h I
    have B := I.B
    have hv := B.vk
    have hJ := hv.1
    have hS14 := hv.2.1
    have i0 : I32 0 := ⟨by omega, by omega⟩
    have i2 : I32 2 := ⟨by omega, by omega⟩
    by_cases c0 : isJ (sV s) j
    · obtain ⟨n, rfl⟩ := Int.eq_ofNat_of_zero_le c0.1
      have hn : n < vJ (sV s) := by have := c0.2; omega
      by_cases c : ¬ vF (sV s) n = true ∧ 0 ≤ a ∧ a ≤ 2
      · obtain ⟨cf, ca⟩ := c
        obtain ⟨b, rfl⟩ := Int.eq_ofNat_of_zero_le ca.1
        have cf2 : vF (sV s) n = false := by cases z : vF (sV s) n with | false => rfl | true => exact absurd z cf
        by_cases ha : aH (sV s) (hgV (sV s))
        · have ea : aBears s (n : Int) (b : Int) = (sm (brn (sV s) n b) (vS (sV s)) + 1000000, s) := Prod.ext ((if_pos ⟨⟨c0, cf2⟩, ca⟩).trans (cif_t ha)) rfl
          have LOOP : ∀ (g : Hp), MInv g s → MS g (sV s) → ∀ (m k : Nat), vS (sV s) - k = m → k ≤ vS (sV s) → Ev mX8_bears 5 47 [some (.ref 0), some (iv (n : Int)), some (iv (b : Int)), some (iv (sm (brn (sV s) n b) k)), some (iv (k : Int))] [] g (PM (aBears s (n : Int) (b : Int))) := by
            intro g Ig M m
            have Bg := M.1
            have hR := Bg.1
            have e1 := Bg.s1
            have ej := (M.2.2.2 n b hn (by omega)).2
            have qj : ((3 : Int) * (n : Int) + (b : Int)).toNat = 3 * n + b := by omega
            induction m using Nat.strongRecOn with
            | ind m ih =>
              intro k hm hk
              by_cases hk2 : k < vS (sV s)
              · have ol := oth_lt (j := n) hv hk2
                have eo := (M.2.2.2 _ b ol (by omega)).2
                have qo : ((3 : Int) * (oth (sV s) k n : Int) + (b : Int)).toNat = 3 * oth (sV s) k n + b := by omega
                have R := ih _ (by omega) (k + 1) rfl (by omega)
                have et : atH (sV s) n k → sm (brn (sV s) n b) k + vQ (sV s) k * (hU (sV s) (oth (sV s) k n) b - hU (sV s) n b) = sm (brn (sV s) n b) (k + 1) := fun z => by show _ = _ + brn (sV s) n b k; rw [show brn (sV s) n b k = _ from cif_t z]
                have ef : ¬ atH (sV s) n k → sm (brn (sV s) n b) (k + 1) = sm (brn (sV s) n b) k := fun z => by show _ + brn (sV s) n b k = _; rw [show brn (sV s) n b k = 0 from cif_f z, Int.add_zero]
                refine Ev.iload dX8_bears_47 (Eq.refl 49) rfl ?_
                refine Ev.aload_n dX8_bears_49 (Eq.refl 50) rfl ?_
                refine Ev.getR dX8_bears_50 (Eq.refl 53) fg_X8_13 rfl rfl (rX8_3 hR) ?_
                refine Ev.iconst dX8_bears_53 (Eq.refl 54) ?_
                refine Ev.iaload dX8_bears_54 (Eq.refl 55) rfl rfl (by omega) (by decide) (show (1 : Int).toNat = 1 from rfl) ?_
                rw [e1]
                refine Ev.icmp_ge (tgt := 121) dX8_bears_55 (Eq.refl 58) (by decide) ⟨by omega, by omega⟩ ⟨by omega, by omega⟩ (fun c55 => ?_) (fun c55 => ?_)
                · omega
                · refine Ev.aload_n dX8_bears_58 (Eq.refl 59) rfl ?_
                  refine Ev.iload dX8_bears_59 (Eq.refl 61) rfl ?_
                  refine Ev.cv1E dX8_bears_61 (Eq.refl 64) cw_X8_137 (Nat.le_of_ble_eq_true rfl) (by decide) rfl rfl rfl (Nat.le_of_ble_eq_true rfl) (q_hangs Bg hk2) ?_
                  refine Ev.if_eqB (tgt := 115) dX8_bears_64 (Eq.refl 67) (by decide) (fun c64 => ?_) (fun c64 => ?_)
                  · refine Ev.ii4 dX8_bears_115 (Eq.refl 118) (by decide) rfl ?_
                    refine Ev.goto' (pc' := 47) dX8_bears_118 (by decide) ?_
                    first | exact R | (rw [ef (fun z => c64 z.1)] at R; exact R) | (rw [ef (fun z => c74 z.2)] at R; exact R)
                  · refine Ev.aload_n dX8_bears_67 (Eq.refl 68) rfl ?_
                    refine Ev.iload dX8_bears_68 (Eq.refl 70) rfl ?_
                    refine Ev.iload_n dX8_bears_70 (Eq.refl 71) rfl ?_
                    refine Ev.cv2E dX8_bears_71 (Eq.refl 74) cw_X8_184 (Nat.le_of_ble_eq_true rfl) (by decide) rfl rfl rfl (Nat.le_of_ble_eq_true rfl) (q_isOf Bg hk2 (by omega)) ?_
                    refine Ev.if_eqB (tgt := 115) dX8_bears_74 (Eq.refl 77) (by decide) (fun c74 => ?_) (fun c74 => ?_)
                    · refine Ev.ii4 dX8_bears_115 (Eq.refl 118) (by decide) rfl ?_
                      refine Ev.goto' (pc' := 47) dX8_bears_118 (by decide) ?_
                      first | exact R | (rw [ef (fun z => c64 z.1)] at R; exact R) | (rw [ef (fun z => c74 z.2)] at R; exact R)
                    · refine Ev.iload_n dX8_bears_77 (Eq.refl 78) rfl ?_
                      refine Ev.aload_n dX8_bears_78 (Eq.refl 79) rfl ?_
                      refine Ev.iload dX8_bears_79 (Eq.refl 81) rfl ?_
                      refine Ev.iconst dX8_bears_81 (Eq.refl 82) ?_
                      refine Ev.cv2E dX8_bears_82 (Eq.refl 85) cw_X8_131 (Nat.le_of_ble_eq_true rfl) (by decide) rfl rfl rfl (Nat.le_of_ble_eq_true rfl) (q_ofQ Bg hk2) ?_
                      refine Ev.aload_n dX8_bears_85 (Eq.refl 86) rfl ?_
                      refine Ev.getR dX8_bears_86 (Eq.refl 89) fg_X8_43 rfl rfl (rX8_17 hR) ?_
                      refine Ev.iconst dX8_bears_89 (Eq.refl 90) ?_
                      refine Ev.aload_n dX8_bears_90 (Eq.refl 91) rfl ?_
                      refine Ev.iload dX8_bears_91 (Eq.refl 93) rfl ?_
                      refine Ev.iload_n dX8_bears_93 (Eq.refl 94) rfl ?_
                      refine Ev.cv2E dX8_bears_94 (Eq.refl 97) cw_X8_147 (Nat.le_of_ble_eq_true rfl) (by decide) rfl rfl rfl (Nat.le_of_ble_eq_true rfl) (q_other Bg hk2 (by omega)) ?_
                      refine Ev.imul dX8_bears_97 (Eq.refl 98) ?_
                      refine Ev.iload_n dX8_bears_98 (Eq.refl 99) rfl ?_
                      refine Ev.iadd dX8_bears_99 (Eq.refl 100) ?_
                      refine Ev.iaload dX8_bears_100 (Eq.refl 101) rfl rfl (by omega) (by decide) qo ?_
                      rw [eo]
                      refine Ev.aload_n dX8_bears_101 (Eq.refl 102) rfl ?_
                      refine Ev.getR dX8_bears_102 (Eq.refl 105) fg_X8_43 rfl rfl (rX8_17 hR) ?_
                      refine Ev.iconst dX8_bears_105 (Eq.refl 106) ?_
                      refine Ev.iload_n dX8_bears_106 (Eq.refl 107) rfl ?_
                      refine Ev.imul dX8_bears_107 (Eq.refl 108) ?_
                      refine Ev.iload_n dX8_bears_108 (Eq.refl 109) rfl ?_
                      refine Ev.iadd dX8_bears_109 (Eq.refl 110) ?_
                      refine Ev.iaload dX8_bears_110 (Eq.refl 111) rfl rfl (by omega) (by decide) qj ?_
                      rw [ej]
                      refine Ev.isub dX8_bears_111 (Eq.refl 112) ?_
                      refine Ev.imul dX8_bears_112 (Eq.refl 113) ?_
                      refine Ev.iadd dX8_bears_113 (Eq.refl 114) ?_
                      rw [et ⟨c64, c74⟩]
                      refine Ev.is3 dX8_bears_114 (Eq.refl 115) (by decide) rfl ?_
                      refine Ev.ii4 dX8_bears_115 (Eq.refl 118) (by decide) rfl ?_
                      refine Ev.goto' (pc' := 47) dX8_bears_118 (by decide) ?_
                      first | exact R | (rw [ef (fun z => c64 z.1)] at R; exact R) | (rw [ef (fun z => c74 z.2)] at R; exact R)
              · have e : k = vS (sV s) := by omega
                subst e
                refine Ev.iload dX8_bears_47 (Eq.refl 49) rfl ?_
                refine Ev.aload_n dX8_bears_49 (Eq.refl 50) rfl ?_
                refine Ev.getR dX8_bears_50 (Eq.refl 53) fg_X8_13 rfl rfl (rX8_3 hR) ?_
                refine Ev.iconst dX8_bears_53 (Eq.refl 54) ?_
                refine Ev.iaload dX8_bears_54 (Eq.refl 55) rfl rfl (by omega) (by decide) (show (1 : Int).toNat = 1 from rfl) ?_
                rw [e1]
                refine Ev.icmp_ge (tgt := 121) dX8_bears_55 (Eq.refl 58) (by decide) ⟨by omega, by omega⟩ ⟨by omega, by omega⟩ (fun c55 => ?_) (fun c55 => ?_)
                · refine Ev.iload_n dX8_bears_121 (Eq.refl 122) rfl ?_
                  refine Ev.ldc dX8_bears_122 (Eq.refl 124) kc_X8_215 ?_
                  refine Ev.iadd dX8_bears_124 (Eq.refl 125) ?_
                  exact Ev.iret dX8_bears_125 rfl ((by rw [ea]; exact ⟨_, rfl, rfl, Ig⟩))
                · omega
          refine Ev.aload_n dX8_bears_5 (Eq.refl 6) rfl ?_
          refine Ev.iload_n dX8_bears_6 (Eq.refl 7) rfl ?_
          refine Ev.cv1E dX8_bears_7 (Eq.refl 10) cw_X8_196 (Nat.le_of_ble_eq_true rfl) (by decide) rfl rfl rfl (Nat.le_of_ble_eq_true rfl) (q_isJoint B hj) ?_
          refine Ev.if_eqB (tgt := 30) dX8_bears_10 (Eq.refl 13) (by decide) (fun c10 => ?_) (fun c10 => ?_)
          · exact absurd c0 c10
          · refine Ev.aload_n dX8_bears_13 (Eq.refl 14) rfl ?_
            refine Ev.iload_n dX8_bears_14 (Eq.refl 15) rfl ?_
            refine Ev.cv1E dX8_bears_15 (Eq.refl 18) cw_X8_134 (Nat.le_of_ble_eq_true rfl) (by decide) rfl rfl rfl (Nat.le_of_ble_eq_true rfl) (q_free B hn) ?_
            refine Ev.if_neB (tgt := 30) dX8_bears_18 (Eq.refl 21) (by decide) (fun c18 => ?_) (fun c18 => ?_)
            · exact absurd c18 cf
            · refine Ev.iload_n dX8_bears_21 (Eq.refl 22) rfl ?_
              refine Ev.iconst dX8_bears_22 (Eq.refl 23) ?_
              refine Ev.iconst dX8_bears_23 (Eq.refl 24) ?_
              refine Ev.cs3E dX8_bears_24 (Eq.refl 27) cw_X8_73 (Nat.le_of_ble_eq_true rfl) (by decide) rfl (Nat.le_of_ble_eq_true rfl) (m_in (by assumption) (by assumption) (by assumption)) ?_
              refine Ev.if_neB (tgt := 32) dX8_bears_27 (Eq.refl 30) (by decide) (fun c27 => ?_) (fun c27 => ?_)
              · refine Ev.aload_n dX8_bears_32 (Eq.refl 33) rfl ?_
                refine Ev.cv0I dX8_bears_33 (Eq.refl 36) cw_X8_202 (Nat.le_of_ble_eq_true rfl) (by decide) rfl rfl rfl (Nat.le_of_ble_eq_true rfl) (q_lays B) (fun x33 g33 hp33 => ?_)
                have M := MS.of B hp33 ha
                obtain ⟨hK, rfl, h7, _⟩ := hp33
                refine Ev.if_neB (tgt := 42) dX8_bears_36 (Eq.refl 39) (by decide) (fun c36 => ?_) (fun c36 => ?_)
                · refine Ev.iconst dX8_bears_42 (Eq.refl 43) ?_
                  refine Ev.is3 dX8_bears_43 (Eq.refl 44) (by decide) rfl ?_
                  refine Ev.iconst dX8_bears_44 (Eq.refl 45) ?_
                  refine Ev.is4 dX8_bears_45 (Eq.refl 47) (by decide) rfl ?_
                  exact LOOP _ (I.k hK.k) M _ 0 rfl (by omega)
                · exact absurd ha c36
              · exact absurd ca c27
        · have ea : aBears s (n : Int) (b : Int) = (-2, s) := Prod.ext ((if_pos ⟨⟨c0, cf2⟩, ca⟩).trans (cif_f ha)) rfl
          refine Ev.aload_n dX8_bears_5 (Eq.refl 6) rfl ?_
          refine Ev.iload_n dX8_bears_6 (Eq.refl 7) rfl ?_
          refine Ev.cv1E dX8_bears_7 (Eq.refl 10) cw_X8_196 (Nat.le_of_ble_eq_true rfl) (by decide) rfl rfl rfl (Nat.le_of_ble_eq_true rfl) (q_isJoint B hj) ?_
          refine Ev.if_eqB (tgt := 30) dX8_bears_10 (Eq.refl 13) (by decide) (fun c10 => ?_) (fun c10 => ?_)
          · exact absurd c0 c10
          · refine Ev.aload_n dX8_bears_13 (Eq.refl 14) rfl ?_
            refine Ev.iload_n dX8_bears_14 (Eq.refl 15) rfl ?_
            refine Ev.cv1E dX8_bears_15 (Eq.refl 18) cw_X8_134 (Nat.le_of_ble_eq_true rfl) (by decide) rfl rfl rfl (Nat.le_of_ble_eq_true rfl) (q_free B hn) ?_
            refine Ev.if_neB (tgt := 30) dX8_bears_18 (Eq.refl 21) (by decide) (fun c18 => ?_) (fun c18 => ?_)
            · exact absurd c18 cf
            · refine Ev.iload_n dX8_bears_21 (Eq.refl 22) rfl ?_
              refine Ev.iconst dX8_bears_22 (Eq.refl 23) ?_
              refine Ev.iconst dX8_bears_23 (Eq.refl 24) ?_
              refine Ev.cs3E dX8_bears_24 (Eq.refl 27) cw_X8_73 (Nat.le_of_ble_eq_true rfl) (by decide) rfl (Nat.le_of_ble_eq_true rfl) (m_in (by assumption) (by assumption) (by assumption)) ?_
              refine Ev.if_neB (tgt := 32) dX8_bears_27 (Eq.refl 30) (by decide) (fun c27 => ?_) (fun c27 => ?_)
              · refine Ev.aload_n dX8_bears_32 (Eq.refl 33) rfl ?_
                refine Ev.cv0I dX8_bears_33 (Eq.refl 36) cw_X8_202 (Nat.le_of_ble_eq_true rfl) (by decide) rfl rfl rfl (Nat.le_of_ble_eq_true rfl) (q_lays B) (fun x33 g33 hp33 => ?_)
                obtain ⟨hK, rfl, h7, _⟩ := hp33
                refine Ev.if_neB (tgt := 42) dX8_bears_36 (Eq.refl 39) (by decide) (fun c36 => ?_) (fun c36 => ?_)
                · exact absurd c36 ha
                · refine Ev.bipush dX8_bears_39 (Eq.refl 41) (by decide) ?_
                  exact Ev.iret dX8_bears_41 rfl ((by rw [ea]; exact ⟨_, rfl, rfl, I.k hK.k⟩))
              · exact absurd ca c27
      · have ea : aBears s (n : Int) a = (-1, s) := Prod.ext (if_neg (fun z => c ⟨by rw [show vF (sV s) n = false from z.1.2]; decide, z.2⟩)) rfl
        refine Ev.aload_n dX8_bears_5 (Eq.refl 6) rfl ?_
        refine Ev.iload_n dX8_bears_6 (Eq.refl 7) rfl ?_
        refine Ev.cv1E dX8_bears_7 (Eq.refl 10) cw_X8_196 (Nat.le_of_ble_eq_true rfl) (by decide) rfl rfl rfl (Nat.le_of_ble_eq_true rfl) (q_isJoint B hj) ?_
        refine Ev.if_eqB (tgt := 30) dX8_bears_10 (Eq.refl 13) (by decide) (fun c10 => ?_) (fun c10 => ?_)
        · exact absurd c0 c10
        · refine Ev.aload_n dX8_bears_13 (Eq.refl 14) rfl ?_
          refine Ev.iload_n dX8_bears_14 (Eq.refl 15) rfl ?_
          refine Ev.cv1E dX8_bears_15 (Eq.refl 18) cw_X8_134 (Nat.le_of_ble_eq_true rfl) (by decide) rfl rfl rfl (Nat.le_of_ble_eq_true rfl) (q_free B hn) ?_
          refine Ev.if_neB (tgt := 30) dX8_bears_18 (Eq.refl 21) (by decide) (fun c18 => ?_) (fun c18 => ?_)
          · refine Ev.iconst dX8_bears_30 (Eq.refl 31) ?_
            exact Ev.iret dX8_bears_31 rfl ((by rw [ea]; exact ⟨_, rfl, rfl, I⟩))
          · refine Ev.iload_n dX8_bears_21 (Eq.refl 22) rfl ?_
            refine Ev.iconst dX8_bears_22 (Eq.refl 23) ?_
            refine Ev.iconst dX8_bears_23 (Eq.refl 24) ?_
            refine Ev.cs3E dX8_bears_24 (Eq.refl 27) cw_X8_73 (Nat.le_of_ble_eq_true rfl) (by decide) rfl (Nat.le_of_ble_eq_true rfl) (m_in (by assumption) (by assumption) (by assumption)) ?_
            refine Ev.if_neB (tgt := 32) dX8_bears_27 (Eq.refl 30) (by decide) (fun c27 => ?_) (fun c27 => ?_)
            · exact absurd ⟨c18, c27⟩ c
            · refine Ev.iconst dX8_bears_30 (Eq.refl 31) ?_
              exact Ev.iret dX8_bears_31 rfl ((by rw [ea]; exact ⟨_, rfl, rfl, I⟩))
    · have ea : aBears s j a = (-1, s) := Prod.ext (if_neg (fun z => c0 z.1.1)) rfl
      refine Ev.aload_n dX8_bears_5 (Eq.refl 6) rfl ?_
      refine Ev.iload_n dX8_bears_6 (Eq.refl 7) rfl ?_
      refine Ev.cv1E dX8_bears_7 (Eq.refl 10) cw_X8_196 (Nat.le_of_ble_eq_true rfl) (by decide) rfl rfl rfl (Nat.le_of_ble_eq_true rfl) (q_isJoint B hj) ?_
      refine Ev.if_eqB (tgt := 30) dX8_bears_10 (Eq.refl 13) (by decide) (fun c10 => ?_) (fun c10 => ?_)
      · refine Ev.iconst dX8_bears_30 (Eq.refl 31) ?_
        exact Ev.iret dX8_bears_31 rfl ((by rw [ea]; exact ⟨_, rfl, rfl, I⟩))
      · exact absurd c10 c0
  refine Ev.aload_n dX8_bears_0 (Eq.refl 1) rfl ?_
  refine Ev.iconst dX8_bears_1 (Eq.refl 2) ?_
  refine Ev.putI dX8_bears_2 (Eq.refl 5) fp_X8_69 rfl rfl (Or.inl rfl) ?_
  exact TAIL _ (I.k (Mk.rf.w (by omega)))
end MQ2
