/-! The model: hasRoom, isTied, takesStrand -/
theorem m_hasRoom {h : Hp} {j : Nat} (hR : MOk h.2.2) (ok : GOk (h.1 3)) (hj : j < vJ (gV (h.1 3))) : Ev mX8_hasRoom 0 0 (entL [.ref 0, iv (j : Int)] 4) [] h (PE (bi (¬ vFull (gV (h.1 3)) j)) h) := by
  show Ev mX8_hasRoom 0 0 [some (.ref 0), some (iv (j : Int)), none, none] [] h _
  have eJ := gJ ok
  have bJ := ok.1
  have eS := gS ok
  have bS := ok.2.1
  have ek := gKind ok hj
  have LOOP : ∀ (m k : Nat), vS (gV (h.1 3)) - k = m → k ≤ vS (gV (h.1 3)) → Ev mX8_hasRoom 0 4 [some (.ref 0), some (iv (j : Int)), some (iv (cnt (fun s => decide (vA (gV (h.1 3)) s = j ∨ vB (gV (h.1 3)) s = j)) k : Int)), some (iv (k : Int))] [] h (PE (bi (¬ vFull (gV (h.1 3)) j)) h) := by
    intro m
    induction m using Nat.strongRecOn with
    | ind m ih =>
      intro k hm hk
      have cl := cnt_le (fun s => decide (vA (gV (h.1 3)) s = j ∨ vB (gV (h.1 3)) s = j)) k
      by_cases hk2 : k < vS (gV (h.1 3))
      · have kS : (k : Int) < h.1 3 1 := by omega
        have eA := gA ok kS
        have eB := gB ok kS
        have bA := ok.2.2.2.1 k kS
        have c1 : (vA (gV (h.1 3)) k = j ∨ vB (gV (h.1 3)) k = j) → cnt (fun s => decide (vA (gV (h.1 3)) s = j ∨ vB (gV (h.1 3)) s = j)) (k + 1) = cnt (fun s => decide (vA (gV (h.1 3)) s = j ∨ vB (gV (h.1 3)) s = j)) k + 1 := fun z => cnt_s (decide_eq_true z)
        have c0 : ¬ (vA (gV (h.1 3)) k = j ∨ vB (gV (h.1 3)) k = j) → cnt (fun s => decide (vA (gV (h.1 3)) s = j ∨ vB (gV (h.1 3)) s = j)) (k + 1) = cnt (fun s => decide (vA (gV (h.1 3)) s = j ∨ vB (gV (h.1 3)) s = j)) k := fun z => cnt_n (decide_eq_false z)
        have L := ih (vS (gV (h.1 3)) - (k + 1)) (by omega) (k + 1) rfl (by omega)
        refine Ev.iload_n dX8_hasRoom_4 (Eq.refl 5) rfl ?_
        refine Ev.aload_n dX8_hasRoom_5 (Eq.refl 6) rfl ?_
        refine Ev.getR dX8_hasRoom_6 (Eq.refl 9) fg_X8_17 rfl rfl (rX8_4 hR) ?_
        refine Ev.iconst dX8_hasRoom_9 (Eq.refl 10) ?_
        refine Ev.iaload dX8_hasRoom_10 (Eq.refl 11) rfl rfl (by omega) (by decide) (show (1 : Int).toNat = 1 from rfl) ?_
        rw [eS]
        refine Ev.icmp_ge (tgt := 60) dX8_hasRoom_11 (Eq.refl 14) (by decide) ⟨by omega, by omega⟩ ⟨by omega, by omega⟩ (fun c11 => ?_) (fun c11 => ?_)
        · omega
        · refine Ev.iload_n dX8_hasRoom_14 (Eq.refl 15) rfl ?_
          refine Ev.aload_n dX8_hasRoom_15 (Eq.refl 16) rfl ?_
          refine Ev.getR dX8_hasRoom_16 (Eq.refl 19) fg_X8_17 rfl rfl (rX8_4 hR) ?_
          refine Ev.bipush dX8_hasRoom_19 (Eq.refl 21) (by decide) ?_
          refine Ev.iconst dX8_hasRoom_21 (Eq.refl 22) ?_
          refine Ev.iload_n dX8_hasRoom_22 (Eq.refl 23) rfl ?_
          refine Ev.imul dX8_hasRoom_23 (Eq.refl 24) ?_
          refine Ev.iadd dX8_hasRoom_24 (Eq.refl 25) ?_
          refine Ev.iaload dX8_hasRoom_25 (Eq.refl 26) rfl rfl (by omega) (by decide) (show ((54 : Int) + 5 * (k : Int)).toNat = 54 + 5 * k by omega) ?_
          rw [eA]
          refine Ev.iload_n dX8_hasRoom_26 (Eq.refl 27) rfl ?_
          refine Ev.icmp_eq (tgt := 47) dX8_hasRoom_27 (Eq.refl 30) (by decide) ⟨by omega, by omega⟩ ⟨by omega, by omega⟩ (fun c27 => ?_) (fun c27 => ?_)
          · have cc := c1 (Or.inl (by omega))
            refine Ev.iconst dX8_hasRoom_47 (Eq.refl 48) ?_
            refine Ev.goto' (pc' := 52) dX8_hasRoom_48 (by decide) ?_
            refine Ev.iadd dX8_hasRoom_52 (Eq.refl 53) ?_
            refine Ev.is2 dX8_hasRoom_53 (Eq.refl 54) (by decide) rfl ?_
            refine Ev.ii3 dX8_hasRoom_54 (Eq.refl 57) (by decide) rfl ?_
            refine Ev.goto' (pc' := 4) dX8_hasRoom_57 (by decide) ?_
            rw [cc] at L
            first | exact L | (rw [Int.add_zero]; exact L)
          · refine Ev.aload_n dX8_hasRoom_30 (Eq.refl 31) rfl ?_
            refine Ev.getR dX8_hasRoom_31 (Eq.refl 34) fg_X8_17 rfl rfl (rX8_4 hR) ?_
            refine Ev.bipush dX8_hasRoom_34 (Eq.refl 36) (by decide) ?_
            refine Ev.iconst dX8_hasRoom_36 (Eq.refl 37) ?_
            refine Ev.iload_n dX8_hasRoom_37 (Eq.refl 38) rfl ?_
            refine Ev.imul dX8_hasRoom_38 (Eq.refl 39) ?_
            refine Ev.iadd dX8_hasRoom_39 (Eq.refl 40) ?_
            refine Ev.iconst dX8_hasRoom_40 (Eq.refl 41) ?_
            refine Ev.iadd dX8_hasRoom_41 (Eq.refl 42) ?_
            refine Ev.iaload dX8_hasRoom_42 (Eq.refl 43) rfl rfl (by omega) (by decide) (show ((54 : Int) + 5 * (k : Int) + 1).toNat = 54 + 5 * k + 1 by omega) ?_
            rw [eB]
            refine Ev.iload_n dX8_hasRoom_43 (Eq.refl 44) rfl ?_
            refine Ev.icmp_ne (tgt := 51) dX8_hasRoom_44 (Eq.refl 47) (by decide) ⟨by omega, by omega⟩ ⟨by omega, by omega⟩ (fun c44 => ?_) (fun c44 => ?_)
            · have cc := c0 (by omega)
              refine Ev.iconst dX8_hasRoom_51 (Eq.refl 52) ?_
              refine Ev.iadd dX8_hasRoom_52 (Eq.refl 53) ?_
              refine Ev.is2 dX8_hasRoom_53 (Eq.refl 54) (by decide) rfl ?_
              refine Ev.ii3 dX8_hasRoom_54 (Eq.refl 57) (by decide) rfl ?_
              refine Ev.goto' (pc' := 4) dX8_hasRoom_57 (by decide) ?_
              rw [cc] at L
              first | exact L | (rw [Int.add_zero]; exact L)
            · have cc := c1 (Or.inr (by omega))
              refine Ev.iconst dX8_hasRoom_47 (Eq.refl 48) ?_
              refine Ev.goto' (pc' := 52) dX8_hasRoom_48 (by decide) ?_
              refine Ev.iadd dX8_hasRoom_52 (Eq.refl 53) ?_
              refine Ev.is2 dX8_hasRoom_53 (Eq.refl 54) (by decide) rfl ?_
              refine Ev.ii3 dX8_hasRoom_54 (Eq.refl 57) (by decide) rfl ?_
              refine Ev.goto' (pc' := 4) dX8_hasRoom_57 (by decide) ?_
              rw [cc] at L
              first | exact L | (rw [Int.add_zero]; exact L)
      · have e : k = vS (gV (h.1 3)) := by omega
        subst e
        have ed : vDeg (gV (h.1 3)) j = cnt (fun s => decide (vA (gV (h.1 3)) s = j ∨ vB (gV (h.1 3)) s = j)) (vS (gV (h.1 3))) := rfl
        by_cases z : vF (gV (h.1 3)) j = true
        · rw [if_pos z] at ek
          refine Ev.iload_n dX8_hasRoom_4 (Eq.refl 5) rfl ?_
          refine Ev.aload_n dX8_hasRoom_5 (Eq.refl 6) rfl ?_
          refine Ev.getR dX8_hasRoom_6 (Eq.refl 9) fg_X8_17 rfl rfl (rX8_4 hR) ?_
          refine Ev.iconst dX8_hasRoom_9 (Eq.refl 10) ?_
          refine Ev.iaload dX8_hasRoom_10 (Eq.refl 11) rfl rfl (by omega) (by decide) (show (1 : Int).toNat = 1 from rfl) ?_
          rw [eS]
          refine Ev.icmp_ge (tgt := 60) dX8_hasRoom_11 (Eq.refl 14) (by decide) ⟨by omega, by omega⟩ ⟨by omega, by omega⟩ (fun c11 => ?_) (fun c11 => ?_)
          · refine Ev.aload_n dX8_hasRoom_60 (Eq.refl 61) rfl ?_
            refine Ev.getR dX8_hasRoom_61 (Eq.refl 64) fg_X8_17 rfl rfl (rX8_4 hR) ?_
            refine Ev.iconst dX8_hasRoom_64 (Eq.refl 65) ?_
            refine Ev.iload_n dX8_hasRoom_65 (Eq.refl 66) rfl ?_
            refine Ev.iadd dX8_hasRoom_66 (Eq.refl 67) ?_
            refine Ev.iaload dX8_hasRoom_67 (Eq.refl 68) rfl rfl (by omega) (by decide) (show ((4 : Int) + (j : Int)).toNat = 4 + j by omega) ?_
            rw [ek]
            refine Ev.if_eq (tgt := 76) dX8_hasRoom_68 (Eq.refl 71) (by decide) ⟨by omega, by omega⟩ (fun c68 => ?_) (fun c68 => ?_)
            · omega
            · refine Ev.iload_n dX8_hasRoom_71 (Eq.refl 72) rfl ?_
              refine Ev.iconst dX8_hasRoom_72 (Eq.refl 73) ?_
              refine Ev.icmp_ge (tgt := 80) dX8_hasRoom_73 (Eq.refl 76) (by decide) ⟨by omega, by omega⟩ ⟨by omega, by omega⟩ (fun c73 => ?_) (fun c73 => ?_)
              · refine Ev.iconst dX8_hasRoom_80 (Eq.refl 81) ?_
                exact Ev.zret dX8_hasRoom_81 rfl (by first | exact bi01 _ | exact Or.inl rfl | exact Or.inr rfl | omega) (PE.of (by first | exact (bi_f (fun w => w ⟨z, by rw [ed]; omega⟩)).symm | exact (bi_t (fun w => by have := w.2; rw [ed] at this; omega)).symm))
              · refine Ev.iconst dX8_hasRoom_76 (Eq.refl 77) ?_
                refine Ev.goto' (pc' := 81) dX8_hasRoom_77 (by decide) ?_
                exact Ev.zret dX8_hasRoom_81 rfl (by first | exact bi01 _ | exact Or.inl rfl | exact Or.inr rfl | omega) (PE.of (by first | exact (bi_f (fun w => w ⟨z, by rw [ed]; omega⟩)).symm | exact (bi_t (fun w => by have := w.2; rw [ed] at this; omega)).symm))
          · omega
        · rw [if_neg z] at ek
          refine Ev.iload_n dX8_hasRoom_4 (Eq.refl 5) rfl ?_
          refine Ev.aload_n dX8_hasRoom_5 (Eq.refl 6) rfl ?_
          refine Ev.getR dX8_hasRoom_6 (Eq.refl 9) fg_X8_17 rfl rfl (rX8_4 hR) ?_
          refine Ev.iconst dX8_hasRoom_9 (Eq.refl 10) ?_
          refine Ev.iaload dX8_hasRoom_10 (Eq.refl 11) rfl rfl (by omega) (by decide) (show (1 : Int).toNat = 1 from rfl) ?_
          rw [eS]
          refine Ev.icmp_ge (tgt := 60) dX8_hasRoom_11 (Eq.refl 14) (by decide) ⟨by omega, by omega⟩ ⟨by omega, by omega⟩ (fun c11 => ?_) (fun c11 => ?_)
          · refine Ev.aload_n dX8_hasRoom_60 (Eq.refl 61) rfl ?_
            refine Ev.getR dX8_hasRoom_61 (Eq.refl 64) fg_X8_17 rfl rfl (rX8_4 hR) ?_
            refine Ev.iconst dX8_hasRoom_64 (Eq.refl 65) ?_
            refine Ev.iload_n dX8_hasRoom_65 (Eq.refl 66) rfl ?_
            refine Ev.iadd dX8_hasRoom_66 (Eq.refl 67) ?_
            refine Ev.iaload dX8_hasRoom_67 (Eq.refl 68) rfl rfl (by omega) (by decide) (show ((4 : Int) + (j : Int)).toNat = 4 + j by omega) ?_
            rw [ek]
            refine Ev.if_eq (tgt := 76) dX8_hasRoom_68 (Eq.refl 71) (by decide) ⟨by omega, by omega⟩ (fun c68 => ?_) (fun c68 => ?_)
            · refine Ev.iconst dX8_hasRoom_76 (Eq.refl 77) ?_
              refine Ev.goto' (pc' := 81) dX8_hasRoom_77 (by decide) ?_
              exact Ev.zret dX8_hasRoom_81 rfl (by first | exact bi01 _ | exact Or.inl rfl | exact Or.inr rfl | omega) (PE.of (bi_t (fun w => z w.1)).symm)
            · omega
          · omega
  refine Ev.iconst dX8_hasRoom_0 (Eq.refl 1) ?_
  refine Ev.is2 dX8_hasRoom_1 (Eq.refl 2) (by decide) rfl ?_
  refine Ev.iconst dX8_hasRoom_2 (Eq.refl 3) ?_
  refine Ev.is3 dX8_hasRoom_3 (Eq.refl 4) (by decide) rfl ?_
  exact LOOP _ 0 rfl (by omega)
theorem m_isTied {h : Hp} {a b : Nat} (hR : MOk h.2.2) (ok : GOk (h.1 3)) (ha : a < 100) (hb : b < 100) (hab : a ≠ b) : Ev mX8_isTied 0 0 (entL [.ref 0, iv (a : Int), iv (b : Int)] 7) [] h (PE (bi (vTied (gV (h.1 3)) a b)) h) := by
  show Ev mX8_isTied 0 0 [some (.ref 0), some (iv (a : Int)), some (iv (b : Int)), none, none, none, none] [] h _
  have eS := gS ok
  have bS := ok.2.1
  have bJ := ok.1
  have hE := ok.2.2.2.2.2.2.2.1
  have LOOP : ∀ (m k : Nat) (y : Int) (u w : Option Value), vS (gV (h.1 3)) - k = m → k ≤ vS (gV (h.1 3)) → y = bi (∃ s, s < k ∧ (vA (gV (h.1 3)) s = a ∨ vB (gV (h.1 3)) s = a) ∧ (vA (gV (h.1 3)) s = b ∨ vB (gV (h.1 3)) s = b)) → Ev mX8_isTied 0 5 [some (.ref 0), some (iv (a : Int)), some (iv (b : Int)), some (iv y), some (iv (k : Int)), u, w] [] h (PE (bi (vTied (gV (h.1 3)) a b)) h) := by
    intro m
    induction m using Nat.strongRecOn with
    | ind m ih =>
      intro k y u w hm hk hy
      have y01 := bi01 (∃ s, s < k ∧ (vA (gV (h.1 3)) s = a ∨ vB (gV (h.1 3)) s = a) ∧ (vA (gV (h.1 3)) s = b ∨ vB (gV (h.1 3)) s = b))
      rw [← hy] at y01
      by_cases hk2 : k < vS (gV (h.1 3))
      · have kS : (k : Int) < h.1 3 1 := by omega
        have eA := gA ok kS
        have eB := gB ok kS
        have bA := ok.2.2.2.1 k kS
        have hne := hE k hk2
        refine Ev.iload dX8_isTied_5 (Eq.refl 7) rfl ?_
        refine Ev.aload_n dX8_isTied_7 (Eq.refl 8) rfl ?_
        refine Ev.getR dX8_isTied_8 (Eq.refl 11) fg_X8_17 rfl rfl (rX8_4 hR) ?_
        refine Ev.iconst dX8_isTied_11 (Eq.refl 12) ?_
        refine Ev.iaload dX8_isTied_12 (Eq.refl 13) rfl rfl (by omega) (by decide) (show (1 : Int).toNat = 1 from rfl) ?_
        rw [eS]
        refine Ev.icmp_ge (tgt := 86) dX8_isTied_13 (Eq.refl 16) (by decide) ⟨by omega, by omega⟩ ⟨by omega, by omega⟩ (fun c13 => ?_) (fun c13 => ?_)
        · omega
        · refine Ev.aload_n dX8_isTied_16 (Eq.refl 17) rfl ?_
          refine Ev.getR dX8_isTied_17 (Eq.refl 20) fg_X8_17 rfl rfl (rX8_4 hR) ?_
          refine Ev.bipush dX8_isTied_20 (Eq.refl 22) (by decide) ?_
          refine Ev.iconst dX8_isTied_22 (Eq.refl 23) ?_
          refine Ev.iload dX8_isTied_23 (Eq.refl 25) rfl ?_
          refine Ev.imul dX8_isTied_25 (Eq.refl 26) ?_
          refine Ev.iadd dX8_isTied_26 (Eq.refl 27) ?_
          refine Ev.iaload dX8_isTied_27 (Eq.refl 28) rfl rfl (by omega) (by decide) (show ((54 : Int) + 5 * (k : Int)).toNat = 54 + 5 * k by omega) ?_
          rw [eA]
          refine Ev.is5 dX8_isTied_28 (Eq.refl 30) (by decide) rfl ?_
          refine Ev.aload_n dX8_isTied_30 (Eq.refl 31) rfl ?_
          refine Ev.getR dX8_isTied_31 (Eq.refl 34) fg_X8_17 rfl rfl (rX8_4 hR) ?_
          refine Ev.bipush dX8_isTied_34 (Eq.refl 36) (by decide) ?_
          refine Ev.iconst dX8_isTied_36 (Eq.refl 37) ?_
          refine Ev.iload dX8_isTied_37 (Eq.refl 39) rfl ?_
          refine Ev.imul dX8_isTied_39 (Eq.refl 40) ?_
          refine Ev.iadd dX8_isTied_40 (Eq.refl 41) ?_
          refine Ev.iconst dX8_isTied_41 (Eq.refl 42) ?_
          refine Ev.iadd dX8_isTied_42 (Eq.refl 43) ?_
          refine Ev.iaload dX8_isTied_43 (Eq.refl 44) rfl rfl (by omega) (by decide) (show ((54 : Int) + 5 * (k : Int) + 1).toNat = 54 + 5 * k + 1 by omega) ?_
          rw [eB]
          refine Ev.is6 dX8_isTied_44 (Eq.refl 46) (by decide) rfl ?_
          refine Ev.iload_n dX8_isTied_46 (Eq.refl 47) rfl ?_
          refine Ev.if_ne (tgt := 74) dX8_isTied_47 (Eq.refl 50) (by decide) ⟨by omega, by omega⟩ (fun c47 => ?_) (fun c47 => ?_)
          · refine Ev.iconst dX8_isTied_74 (Eq.refl 75) ?_
            refine Ev.goto' (pc' := 79) dX8_isTied_75 (by decide) ?_
            refine Ev.is3 dX8_isTied_79 (Eq.refl 80) (by decide) rfl ?_
            refine Ev.ii4 dX8_isTied_80 (Eq.refl 83) (by decide) rfl ?_
            refine Ev.goto' (pc' := 5) dX8_isTied_83 (by decide) ?_
            exact ih _ (by omega) (k + 1) _ _ _ rfl (by omega) (by first | exact ex_u (P := fun s => (vA (gV (h.1 3)) s = a ∨ vB (gV (h.1 3)) s = a) ∧ (vA (gV (h.1 3)) s = b ∨ vB (gV (h.1 3)) s = b)) hy c47 | exact ex_t (P := fun s => (vA (gV (h.1 3)) s = a ∨ vB (gV (h.1 3)) s = a) ∧ (vA (gV (h.1 3)) s = b ∨ vB (gV (h.1 3)) s = b)) (by omega) | exact c47 ▸ ex_s (P := fun s => (vA (gV (h.1 3)) s = a ∨ vB (gV (h.1 3)) s = a) ∧ (vA (gV (h.1 3)) s = b ∨ vB (gV (h.1 3)) s = b)) hy (by omega))
          · refine Ev.iload dX8_isTied_50 (Eq.refl 52) rfl ?_
            refine Ev.iload_n dX8_isTied_52 (Eq.refl 53) rfl ?_
            refine Ev.icmp_ne (tgt := 62) dX8_isTied_53 (Eq.refl 56) (by decide) ⟨by omega, by omega⟩ ⟨by omega, by omega⟩ (fun c53 => ?_) (fun c53 => ?_)
            · refine Ev.iload dX8_isTied_62 (Eq.refl 64) rfl ?_
              refine Ev.iload_n dX8_isTied_64 (Eq.refl 65) rfl ?_
              refine Ev.icmp_ne (tgt := 78) dX8_isTied_65 (Eq.refl 68) (by decide) ⟨by omega, by omega⟩ ⟨by omega, by omega⟩ (fun c65 => ?_) (fun c65 => ?_)
              · refine Ev.iconst dX8_isTied_78 (Eq.refl 79) ?_
                refine Ev.is3 dX8_isTied_79 (Eq.refl 80) (by decide) rfl ?_
                refine Ev.ii4 dX8_isTied_80 (Eq.refl 83) (by decide) rfl ?_
                refine Ev.goto' (pc' := 5) dX8_isTied_83 (by decide) ?_
                exact ih _ (by omega) (k + 1) _ _ _ rfl (by omega) (by first | exact ex_u (P := fun s => (vA (gV (h.1 3)) s = a ∨ vB (gV (h.1 3)) s = a) ∧ (vA (gV (h.1 3)) s = b ∨ vB (gV (h.1 3)) s = b)) hy c47 | exact ex_t (P := fun s => (vA (gV (h.1 3)) s = a ∨ vB (gV (h.1 3)) s = a) ∧ (vA (gV (h.1 3)) s = b ∨ vB (gV (h.1 3)) s = b)) (by omega) | exact c47 ▸ ex_s (P := fun s => (vA (gV (h.1 3)) s = a ∨ vB (gV (h.1 3)) s = a) ∧ (vA (gV (h.1 3)) s = b ∨ vB (gV (h.1 3)) s = b)) hy (by omega))
              · refine Ev.iload dX8_isTied_68 (Eq.refl 70) rfl ?_
                refine Ev.iload_n dX8_isTied_70 (Eq.refl 71) rfl ?_
                refine Ev.icmp_ne (tgt := 78) dX8_isTied_71 (Eq.refl 74) (by decide) ⟨by omega, by omega⟩ ⟨by omega, by omega⟩ (fun c71 => ?_) (fun c71 => ?_)
                · refine Ev.iconst dX8_isTied_78 (Eq.refl 79) ?_
                  refine Ev.is3 dX8_isTied_79 (Eq.refl 80) (by decide) rfl ?_
                  refine Ev.ii4 dX8_isTied_80 (Eq.refl 83) (by decide) rfl ?_
                  refine Ev.goto' (pc' := 5) dX8_isTied_83 (by decide) ?_
                  exact ih _ (by omega) (k + 1) _ _ _ rfl (by omega) (by first | exact ex_u (P := fun s => (vA (gV (h.1 3)) s = a ∨ vB (gV (h.1 3)) s = a) ∧ (vA (gV (h.1 3)) s = b ∨ vB (gV (h.1 3)) s = b)) hy c47 | exact ex_t (P := fun s => (vA (gV (h.1 3)) s = a ∨ vB (gV (h.1 3)) s = a) ∧ (vA (gV (h.1 3)) s = b ∨ vB (gV (h.1 3)) s = b)) (by omega) | exact c47 ▸ ex_s (P := fun s => (vA (gV (h.1 3)) s = a ∨ vB (gV (h.1 3)) s = a) ∧ (vA (gV (h.1 3)) s = b ∨ vB (gV (h.1 3)) s = b)) hy (by omega))
                · refine Ev.iconst dX8_isTied_74 (Eq.refl 75) ?_
                  refine Ev.goto' (pc' := 79) dX8_isTied_75 (by decide) ?_
                  refine Ev.is3 dX8_isTied_79 (Eq.refl 80) (by decide) rfl ?_
                  refine Ev.ii4 dX8_isTied_80 (Eq.refl 83) (by decide) rfl ?_
                  refine Ev.goto' (pc' := 5) dX8_isTied_83 (by decide) ?_
                  exact ih _ (by omega) (k + 1) _ _ _ rfl (by omega) (by first | exact ex_u (P := fun s => (vA (gV (h.1 3)) s = a ∨ vB (gV (h.1 3)) s = a) ∧ (vA (gV (h.1 3)) s = b ∨ vB (gV (h.1 3)) s = b)) hy c47 | exact ex_t (P := fun s => (vA (gV (h.1 3)) s = a ∨ vB (gV (h.1 3)) s = a) ∧ (vA (gV (h.1 3)) s = b ∨ vB (gV (h.1 3)) s = b)) (by omega) | exact c47 ▸ ex_s (P := fun s => (vA (gV (h.1 3)) s = a ∨ vB (gV (h.1 3)) s = a) ∧ (vA (gV (h.1 3)) s = b ∨ vB (gV (h.1 3)) s = b)) hy (by omega))
            · refine Ev.iload dX8_isTied_56 (Eq.refl 58) rfl ?_
              refine Ev.iload_n dX8_isTied_58 (Eq.refl 59) rfl ?_
              refine Ev.icmp_eq (tgt := 74) dX8_isTied_59 (Eq.refl 62) (by decide) ⟨by omega, by omega⟩ ⟨by omega, by omega⟩ (fun c59 => ?_) (fun c59 => ?_)
              · refine Ev.iconst dX8_isTied_74 (Eq.refl 75) ?_
                refine Ev.goto' (pc' := 79) dX8_isTied_75 (by decide) ?_
                refine Ev.is3 dX8_isTied_79 (Eq.refl 80) (by decide) rfl ?_
                refine Ev.ii4 dX8_isTied_80 (Eq.refl 83) (by decide) rfl ?_
                refine Ev.goto' (pc' := 5) dX8_isTied_83 (by decide) ?_
                exact ih _ (by omega) (k + 1) _ _ _ rfl (by omega) (by first | exact ex_u (P := fun s => (vA (gV (h.1 3)) s = a ∨ vB (gV (h.1 3)) s = a) ∧ (vA (gV (h.1 3)) s = b ∨ vB (gV (h.1 3)) s = b)) hy c47 | exact ex_t (P := fun s => (vA (gV (h.1 3)) s = a ∨ vB (gV (h.1 3)) s = a) ∧ (vA (gV (h.1 3)) s = b ∨ vB (gV (h.1 3)) s = b)) (by omega) | exact c47 ▸ ex_s (P := fun s => (vA (gV (h.1 3)) s = a ∨ vB (gV (h.1 3)) s = a) ∧ (vA (gV (h.1 3)) s = b ∨ vB (gV (h.1 3)) s = b)) hy (by omega))
              · refine Ev.iload dX8_isTied_62 (Eq.refl 64) rfl ?_
                refine Ev.iload_n dX8_isTied_64 (Eq.refl 65) rfl ?_
                refine Ev.icmp_ne (tgt := 78) dX8_isTied_65 (Eq.refl 68) (by decide) ⟨by omega, by omega⟩ ⟨by omega, by omega⟩ (fun c65 => ?_) (fun c65 => ?_)
                · refine Ev.iconst dX8_isTied_78 (Eq.refl 79) ?_
                  refine Ev.is3 dX8_isTied_79 (Eq.refl 80) (by decide) rfl ?_
                  refine Ev.ii4 dX8_isTied_80 (Eq.refl 83) (by decide) rfl ?_
                  refine Ev.goto' (pc' := 5) dX8_isTied_83 (by decide) ?_
                  exact ih _ (by omega) (k + 1) _ _ _ rfl (by omega) (by first | exact ex_u (P := fun s => (vA (gV (h.1 3)) s = a ∨ vB (gV (h.1 3)) s = a) ∧ (vA (gV (h.1 3)) s = b ∨ vB (gV (h.1 3)) s = b)) hy c47 | exact ex_t (P := fun s => (vA (gV (h.1 3)) s = a ∨ vB (gV (h.1 3)) s = a) ∧ (vA (gV (h.1 3)) s = b ∨ vB (gV (h.1 3)) s = b)) (by omega) | exact c47 ▸ ex_s (P := fun s => (vA (gV (h.1 3)) s = a ∨ vB (gV (h.1 3)) s = a) ∧ (vA (gV (h.1 3)) s = b ∨ vB (gV (h.1 3)) s = b)) hy (by omega))
                · refine Ev.iload dX8_isTied_68 (Eq.refl 70) rfl ?_
                  refine Ev.iload_n dX8_isTied_70 (Eq.refl 71) rfl ?_
                  refine Ev.icmp_ne (tgt := 78) dX8_isTied_71 (Eq.refl 74) (by decide) ⟨by omega, by omega⟩ ⟨by omega, by omega⟩ (fun c71 => ?_) (fun c71 => ?_)
                  · refine Ev.iconst dX8_isTied_78 (Eq.refl 79) ?_
                    refine Ev.is3 dX8_isTied_79 (Eq.refl 80) (by decide) rfl ?_
                    refine Ev.ii4 dX8_isTied_80 (Eq.refl 83) (by decide) rfl ?_
                    refine Ev.goto' (pc' := 5) dX8_isTied_83 (by decide) ?_
                    exact ih _ (by omega) (k + 1) _ _ _ rfl (by omega) (by first | exact ex_u (P := fun s => (vA (gV (h.1 3)) s = a ∨ vB (gV (h.1 3)) s = a) ∧ (vA (gV (h.1 3)) s = b ∨ vB (gV (h.1 3)) s = b)) hy c47 | exact ex_t (P := fun s => (vA (gV (h.1 3)) s = a ∨ vB (gV (h.1 3)) s = a) ∧ (vA (gV (h.1 3)) s = b ∨ vB (gV (h.1 3)) s = b)) (by omega) | exact c47 ▸ ex_s (P := fun s => (vA (gV (h.1 3)) s = a ∨ vB (gV (h.1 3)) s = a) ∧ (vA (gV (h.1 3)) s = b ∨ vB (gV (h.1 3)) s = b)) hy (by omega))
                  · refine Ev.iconst dX8_isTied_74 (Eq.refl 75) ?_
                    refine Ev.goto' (pc' := 79) dX8_isTied_75 (by decide) ?_
                    refine Ev.is3 dX8_isTied_79 (Eq.refl 80) (by decide) rfl ?_
                    refine Ev.ii4 dX8_isTied_80 (Eq.refl 83) (by decide) rfl ?_
                    refine Ev.goto' (pc' := 5) dX8_isTied_83 (by decide) ?_
                    exact ih _ (by omega) (k + 1) _ _ _ rfl (by omega) (by first | exact ex_u (P := fun s => (vA (gV (h.1 3)) s = a ∨ vB (gV (h.1 3)) s = a) ∧ (vA (gV (h.1 3)) s = b ∨ vB (gV (h.1 3)) s = b)) hy c47 | exact ex_t (P := fun s => (vA (gV (h.1 3)) s = a ∨ vB (gV (h.1 3)) s = a) ∧ (vA (gV (h.1 3)) s = b ∨ vB (gV (h.1 3)) s = b)) (by omega) | exact c47 ▸ ex_s (P := fun s => (vA (gV (h.1 3)) s = a ∨ vB (gV (h.1 3)) s = a) ∧ (vA (gV (h.1 3)) s = b ∨ vB (gV (h.1 3)) s = b)) hy (by omega))
      · have e : k = vS (gV (h.1 3)) := by omega
        subst e
        refine Ev.iload dX8_isTied_5 (Eq.refl 7) rfl ?_
        refine Ev.aload_n dX8_isTied_7 (Eq.refl 8) rfl ?_
        refine Ev.getR dX8_isTied_8 (Eq.refl 11) fg_X8_17 rfl rfl (rX8_4 hR) ?_
        refine Ev.iconst dX8_isTied_11 (Eq.refl 12) ?_
        refine Ev.iaload dX8_isTied_12 (Eq.refl 13) rfl rfl (by omega) (by decide) (show (1 : Int).toNat = 1 from rfl) ?_
        rw [eS]
        refine Ev.icmp_ge (tgt := 86) dX8_isTied_13 (Eq.refl 16) (by decide) ⟨by omega, by omega⟩ ⟨by omega, by omega⟩ (fun c13 => ?_) (fun c13 => ?_)
        · refine Ev.iload_n dX8_isTied_86 (Eq.refl 87) rfl ?_
          exact Ev.zret dX8_isTied_87 rfl (by first | exact bi01 _ | exact Or.inl rfl | exact Or.inr rfl | omega) (PE.of hy)
        · omega
  refine Ev.iconst dX8_isTied_0 (Eq.refl 1) ?_
  refine Ev.is3 dX8_isTied_1 (Eq.refl 2) (by decide) rfl ?_
  refine Ev.iconst dX8_isTied_2 (Eq.refl 3) ?_
  refine Ev.is4 dX8_isTied_3 (Eq.refl 5) (by decide) rfl ?_
  exact LOOP _ 0 0 _ _ rfl (by omega) (bi_f (fun ⟨i, hi, _⟩ => by omega)).symm
