/-! The model: down (a division), root -/
theorem floor_neg {a b : Int} (hb : 0 < b) : -((-a + b - 1) / b) = a / b := by
  have h1 := Int.ediv_mul_le (-a + b - 1) (show b ≠ 0 by omega)
  have h2 := Int.lt_ediv_add_one_mul_self (-a + b - 1) hb
  generalize (-a + b - 1) / b = q at *
  rw [Int.add_mul, Int.one_mul] at h2
  refine Int.le_antisymm ((Int.le_ediv_iff_mul_le hb).mpr ?_) ?_
  · rw [Int.neg_mul]; omega
  · have : a / b < -q + 1 := (Int.ediv_lt_iff_lt_mul hb).mpr (by rw [Int.add_mul, Int.one_mul, Int.neg_mul]; omega)
    omega
theorem m_downL {h : Hp} {a b : Int} (ha : -1000000000000000 ≤ a ∧ a ≤ 1000000000000000) (hb : 0 < b ∧ b ≤ 1000000000000000) : Ev mX8_down 0 0 (entL [jv a, jv b] 4) [] h (PEJ (a / b) h) := by
  show Ev mX8_down 0 0 [some (jv a), none, some (jv b), none] [] h _
  refine Ev.lload_n dX8_down_0 (Eq.refl 1) rfl ?_
  refine Ev.lconst0 dX8_down_1 (Eq.refl 2) ?_
  refine Ev.ifl_lt (tgt := 12) dX8_down_2 (Eq.refl 3) dX8_down_3 (Eq.refl 6) (by decide) ⟨by omega, by omega⟩ ⟨by omega, by omega⟩ (fun c2 => ?_) (fun c2 => ?_)
  · refine Ev.lload_n dX8_down_12 (Eq.refl 13) rfl ?_
    refine Ev.lneg dX8_down_13 (Eq.refl 14) ?_
    refine Ev.lload_n dX8_down_14 (Eq.refl 15) rfl ?_
    refine Ev.ladd dX8_down_15 (Eq.refl 16) ?_
    refine Ev.lconst1 dX8_down_16 (Eq.refl 17) ?_
    refine Ev.lsub dX8_down_17 (Eq.refl 18) ?_
    refine Ev.lload_n dX8_down_18 (Eq.refl 19) rfl ?_
    refine Ev.ldiv dX8_down_19 (Eq.refl 20) ⟨by omega, by omega⟩ ⟨by omega, by omega⟩ (by omega) ?_
    refine Ev.lneg dX8_down_20 (Eq.refl 21) ?_
    exact Ev.lret dX8_down_21 rfl (⟨_, rfl, by first | exact Int.tdiv_eq_ediv_of_nonneg (by omega) | (rw [Int.tdiv_eq_ediv_of_nonneg (by omega)]; exact floor_neg hb.1), rfl⟩)
  · refine Ev.lload_n dX8_down_6 (Eq.refl 7) rfl ?_
    refine Ev.lload_n dX8_down_7 (Eq.refl 8) rfl ?_
    refine Ev.ldiv dX8_down_8 (Eq.refl 9) ⟨by omega, by omega⟩ ⟨by omega, by omega⟩ (by omega) ?_
    refine Ev.goto' (pc' := 21) dX8_down_9 (by decide) ?_
    exact Ev.lret dX8_down_21 rfl (⟨_, rfl, by first | exact Int.tdiv_eq_ediv_of_nonneg (by omega) | (rw [Int.tdiv_eq_ediv_of_nonneg (by omega)]; exact floor_neg hb.1), rfl⟩)
theorem m_root {h : Hp} {x : Int} (hx : 0 ≤ x ∧ x < 4000000000000000000) : Ev mX8_root 0 0 (entL [jv x] 8) [] h (PEJ (isq x) h) := by
  show Ev mX8_root 0 0 [some (jv x), none, none, none, none, none, none, none] [] h _
  have LOOP : ∀ (m : Nat) (lo hi : Int) (w : Option Value), (hi - lo).toNat = m → 0 ≤ lo → lo ≤ hi → hi ≤ 2000000000 → lo * lo ≤ x → x < (hi + 1) * (hi + 1) → Ev mX8_root 0 7 [some (jv x), none, some (jv lo), none, some (jv hi), none, w, none] [] h (PEJ (isq x) h) := by
    intro m
    induction m using Nat.strongRecOn with
    | ind m ih =>
      intro lo hi w hm h0 hl hh h1 h2
      by_cases e : lo < hi
      · have eh : (lo + hi + 1).tdiv 2 = (lo + hi + 1) / 2 := Int.tdiv_eq_ediv_of_nonneg (by omega)
        have b1 : lo < (lo + hi + 1) / 2 ∧ (lo + hi + 1) / 2 ≤ hi := by omega
        generalize hq : (lo + hi + 1) / 2 = q at *
        have sb : 0 ≤ q * q ∧ q * q ≤ 2000000000 * 2000000000 := ⟨sq_nn q, sq_le (by omega) (by omega)⟩
        refine Ev.lload_n dX8_root_7 (Eq.refl 8) rfl ?_
        refine Ev.lload dX8_root_8 (Eq.refl 10) rfl ?_
        refine Ev.ifl_ge (tgt := 51) dX8_root_10 (Eq.refl 11) dX8_root_11 (Eq.refl 14) (by decide) ⟨by omega, by omega⟩ ⟨by omega, by omega⟩ (fun c10 => ?_) (fun c10 => ?_)
        · omega
        · refine Ev.lload_n dX8_root_14 (Eq.refl 15) rfl ?_
          refine Ev.lload dX8_root_15 (Eq.refl 17) rfl ?_
          refine Ev.ladd dX8_root_17 (Eq.refl 18) ?_
          refine Ev.lconst1 dX8_root_18 (Eq.refl 19) ?_
          refine Ev.ladd dX8_root_19 (Eq.refl 20) ?_
          refine Ev.ldc2 dX8_root_20 (Eq.refl 23) kc_X8_168 ?_
          refine Ev.ldiv dX8_root_23 (Eq.refl 24) ⟨by omega, by omega⟩ ⟨by omega, by omega⟩ (by omega) ?_
          rw [eh]
          refine Ev.ls6 dX8_root_24 (Eq.refl 26) (by decide) rfl ?_
          refine Ev.lload dX8_root_26 (Eq.refl 28) rfl ?_
          refine Ev.lload dX8_root_28 (Eq.refl 30) rfl ?_
          refine Ev.lmul dX8_root_30 (Eq.refl 31) ?_
          refine Ev.lload_n dX8_root_31 (Eq.refl 32) rfl ?_
          refine Ev.ifl_gt (tgt := 42) dX8_root_32 (Eq.refl 33) dX8_root_33 (Eq.refl 36) (by decide) ⟨by omega, by omega⟩ ⟨by omega, by omega⟩ (fun c32 => ?_) (fun c32 => ?_)
          · refine Ev.lload dX8_root_42 (Eq.refl 44) rfl ?_
            refine Ev.lconst1 dX8_root_44 (Eq.refl 45) ?_
            refine Ev.lsub dX8_root_45 (Eq.refl 46) ?_
            refine Ev.ls4 dX8_root_46 (Eq.refl 48) (by decide) rfl ?_
            refine Ev.goto' (pc' := 7) dX8_root_48 (by decide) ?_
            first | exact ih _ (by omega) q hi _ rfl (by omega) (by omega) hh (by omega) h2 | exact ih _ (by omega) lo (q - 1) _ rfl h0 (by omega) (by omega) h1 (by rw [show q - 1 + 1 = q by omega]; omega)
          · refine Ev.lload dX8_root_36 (Eq.refl 38) rfl ?_
            refine Ev.ls2 dX8_root_38 (Eq.refl 39) (by decide) rfl ?_
            refine Ev.goto' (pc' := 48) dX8_root_39 (by decide) ?_
            refine Ev.goto' (pc' := 7) dX8_root_48 (by decide) ?_
            first | exact ih _ (by omega) q hi _ rfl (by omega) (by omega) hh (by omega) h2 | exact ih _ (by omega) lo (q - 1) _ rfl h0 (by omega) (by omega) h1 (by rw [show q - 1 + 1 = q by omega]; omega)
      · have e2 : lo = hi := by omega
        subst e2
        refine Ev.lload_n dX8_root_7 (Eq.refl 8) rfl ?_
        refine Ev.lload dX8_root_8 (Eq.refl 10) rfl ?_
        refine Ev.ifl_ge (tgt := 51) dX8_root_10 (Eq.refl 11) dX8_root_11 (Eq.refl 14) (by decide) ⟨by omega, by omega⟩ ⟨by omega, by omega⟩ (fun c10 => ?_) (fun c10 => ?_)
        · refine Ev.lload_n dX8_root_51 (Eq.refl 52) rfl ?_
          exact Ev.lret dX8_root_52 rfl (⟨_, rfl, (isq_of ⟨h0, h1, h2⟩).symm, rfl⟩)
        · omega
  refine Ev.lconst0 dX8_root_0 (Eq.refl 1) ?_
  refine Ev.ls2 dX8_root_1 (Eq.refl 2) (by decide) rfl ?_
  refine Ev.ldc2 dX8_root_2 (Eq.refl 5) kc_X8_166 ?_
  refine Ev.ls4 dX8_root_5 (Eq.refl 7) (by decide) rfl ?_
  exact LOOP _ 0 2000000000 _ rfl (by omega) (by omega) (by omega) (by omega) (by omega)
