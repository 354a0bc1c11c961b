/-! The model: pieces, first fit -/
def Ck (h g : Hp) : Prop := g.2.2 = h.2.2 ∧ g.2.1 = h.2.1 ∧ (∀ i, i ≠ 0 → ¬ (12 ≤ i ∧ i ≤ 16) → ∀ j, g.1 i j = h.1 i j) ∧ ∀ k, k ≠ 21 → g.1 0 k = h.1 0 k
section CK
variable {h g f : Hp} {v : Nv}
theorem Ck.rf : Ck h h := ⟨rfl, rfl, fun _ _ _ _ => rfl, fun _ _ => rfl⟩
theorem Ck.tr (a : Ck h g) (b : Ck g f) : Ck h f := ⟨b.1.trans a.1, b.2.1.trans a.2.1, fun i h1 h2 j => (b.2.2.1 i h1 h2 j).trans (a.2.2.1 i h1 h2 j), fun k q => (b.2.2.2 k q).trans (a.2.2.2 k q)⟩
theorem Ck.w {i k : Nat} {x : Int} (a : Ck h g) (hi : (i = 0 ∧ k = 21) ∨ (12 ≤ i ∧ i ≤ 16)) : Ck h (hI g i k x) := ⟨a.1, a.2.1, fun i' h1 h2 j => by rw [hI_rd, if_neg (by omega)]; exact a.2.2.1 i' h1 h2 j, fun k' q => by rw [hI_rd, if_neg (by omega)]; exact a.2.2.2 k' q⟩
theorem Ck.s (a : Ck h g) : g.1 2 = h.1 2 := funext fun j => a.2.2.1 2 (by omega) (by omega) j
theorem Ck.k (a : Ck h g) : Mk h g := ⟨a.1, a.2.2.1 1 (by omega) (by omega), a.2.2.1 2 (by omega) (by omega), a.2.2.1 4 (by omega) (by omega), a.2.2.2 2 (by omega), a.2.2.2 6 (by omega)⟩
theorem MB.ck (B : MB h v) (a : Ck h g) : MB g v := B.c a.1 a.s
theorem MS.ck (M : MS h v) (a : Ck h g) : MS g v := ⟨M.1.ck a, M.2.1, M.2.2.c a.2.1 (a.2.2.1 11 (by omega) (by omega))⟩
def PCS (h : Hp) (v : Nv) : Prop := ∀ s, s < vS v → h.1 12 s = if vH v s = true then szV v s else -4
theorem MB.R (B : MB h v) : h.1 2 2 = vR v := by rw [← B.2.2]; rfl
theorem MB.E (B : MB h v) : h.1 2 3 = vE v := by rw [← B.2.2]; rfl
theorem m_laysPieces (M : MS h v) : Ev mX8_laysPieces 2 0 (entL [.ref 0] 3) [] h (PI (fun x h' => Ck h h' ∧ x = bi (fitAll v) ∧ PCS h' v)) := by
  show Ev mX8_laysPieces 2 0 [some (.ref 0), none, none] [] h _
  have hv := M.1.vk
  have ha := M.2.1
  have hS14 := hv.2.1
  have bR := hv.2.2.2.2.2.2.2
  have LOOP : ∀ (m k : Nat) (g : Hp) (y : Int), vS v - k = m → k ≤ vS v → Ck h g → y = bi (∀ s, s < k → vH v s = true → szV v s ≤ Zr v) → (∀ s, s < k → g.1 12 s = if vH v s = true then szV v s else -4) → Ev mX8_laysPieces 2 4 [some (.ref 0), some (iv y), some (iv (k : Int))] [] g (PI (fun x h' => Ck h h' ∧ x = bi (fitAll v) ∧ PCS h' v)) := by
    intro m
    induction m using Nat.strongRecOn with
    | ind m ih =>
      intro k g y hm hk hC hy hp
      have Mg := M.ck hC
      have B := Mg.1
      have hR := B.1
      have e1 := B.s1
      have y01 := bi01 (∀ s, s < k → vH v s = true → szV v s ≤ Zr v)
      rw [← hy] at y01
      by_cases hk2 : k < vS v
      · have sb := szV_b hv ha hk2
        have lb := len_b hv ha hk2
        have g0 : y = 0 ∨ ¬ (vH v k = true → szV v k ≤ Zr v) → (0 : Int) = bi (∀ s, s < k + 1 → vH v s = true → szV v s ≤ Zr v) := fun z => (bi_f (fun w => by rcases z with z | z; exact bi_0 (hy.symm.trans z) (fun i hi => w i (by omega)); exact z (w k (by omega)))).symm
        have g1 : y ≠ 0 → (vH v k = true → szV v k ≤ Zr v) → (1 : Int) = bi (∀ s, s < k + 1 → vH v s = true → szV v s ≤ Zr v) := fun z1 z2 => (bi_t (fun i hi => if e : i = k then by rw [e]; exact z2 else bi_1 (hy.symm.trans (by omega)) i (by omega))).symm
        have NX : ∀ (x yy : Int), x = (if vH v k = true then szV v k else -4) → yy = bi (∀ s, s < k + 1 → vH v s = true → szV v s ≤ Zr v) → Ev mX8_laysPieces 2 4 [some (.ref 0), some (iv yy), some (iv ((k : Int) + 1))] [] (hI g 12 k x) (PI (fun x h' => Ck h h' ∧ x = bi (fitAll v) ∧ PCS h' v)) := fun x yy ex eyy => ih _ (by omega) (k + 1) _ yy rfl (by omega) (hC.w (by omega)) eyy (fun s hs => by
          rw [hI_rd]
          by_cases e : s = k
          · rw [if_pos ⟨rfl, e⟩, e, ex]
          · rw [if_neg (fun z => e z.2)]; exact hp s (by omega))
        have eE := B.E
        have rR : ∀ x, (hI g 12 k x).1 2 2 = vR v := fun x => by rw [hI_ni (by omega)]; exact B.R
        by_cases hh : vH v k = true
        · have ez : len v k + vE v = szV v k := rfl
          refine Ev.iload_n dX8_laysPieces_4 (Eq.refl 5) rfl ?_
          refine Ev.aload_n dX8_laysPieces_5 (Eq.refl 6) rfl ?_
          refine Ev.getR dX8_laysPieces_6 (Eq.refl 9) fg_X8_13 rfl rfl (rX8_3 hR) ?_
          refine Ev.iconst dX8_laysPieces_9 (Eq.refl 10) ?_
          refine Ev.iaload dX8_laysPieces_10 (Eq.refl 11) rfl rfl (by omega) (by decide) (show (1 : Int).toNat = 1 from rfl) ?_
          rw [e1]
          refine Ev.icmp_ge (tgt := 79) dX8_laysPieces_11 (Eq.refl 14) (by decide) ⟨by omega, by omega⟩ ⟨by omega, by omega⟩ (fun c11 => ?_) (fun c11 => ?_)
          · omega
          · refine Ev.aload_n dX8_laysPieces_14 (Eq.refl 15) rfl ?_
            refine Ev.getR dX8_laysPieces_15 (Eq.refl 18) fg_X8_46 rfl rfl (rX8_18 hR) ?_
            refine Ev.iload_n dX8_laysPieces_18 (Eq.refl 19) rfl ?_
            refine Ev.aload_n dX8_laysPieces_19 (Eq.refl 20) rfl ?_
            refine Ev.iload_n dX8_laysPieces_20 (Eq.refl 21) rfl ?_
            refine Ev.cv1E dX8_laysPieces_21 (Eq.refl 24) cw_X8_137 (Nat.le_of_ble_eq_true rfl) (by decide) rfl rfl rfl (Nat.le_of_ble_eq_true rfl) (q_hangs B hk2) ?_
            refine Ev.if_eqB (tgt := 42) dX8_laysPieces_24 (Eq.refl 27) (by decide) (fun c24 => ?_) (fun c24 => ?_)
            · exact absurd hh c24
            · refine Ev.aload_n dX8_laysPieces_27 (Eq.refl 28) rfl ?_
              refine Ev.iload_n dX8_laysPieces_28 (Eq.refl 29) rfl ?_
              refine Ev.cv1E dX8_laysPieces_29 (Eq.refl 32) cw_X8_174 (Nat.le_of_ble_eq_true rfl) (by decide) rfl rfl rfl (Nat.le_of_ble_eq_true rfl) (q_len Mg hk2) ?_
              refine Ev.aload_n dX8_laysPieces_32 (Eq.refl 33) rfl ?_
              refine Ev.getR dX8_laysPieces_33 (Eq.refl 36) fg_X8_13 rfl rfl (rX8_3 hR) ?_
              refine Ev.iconst dX8_laysPieces_36 (Eq.refl 37) ?_
              refine Ev.iaload dX8_laysPieces_37 (Eq.refl 38) rfl rfl (by omega) (by decide) (show (3 : Int).toNat = 3 from rfl) ?_
              rw [eE]
              refine Ev.iadd dX8_laysPieces_38 (Eq.refl 39) ?_
              rw [ez]
              refine Ev.goto' (pc' := 44) dX8_laysPieces_39 (by decide) ?_
              refine Ev.iastore dX8_laysPieces_44 (Eq.refl 45) rfl rfl (by omega) (by decide) (by first | with_reducible exact Int.toNat_natCast _ | exact Eq.refl _) ?_
              refine Ev.iload_n dX8_laysPieces_45 (Eq.refl 46) rfl ?_
              refine Ev.if_eq (tgt := 71) dX8_laysPieces_46 (Eq.refl 49) (by decide) ⟨by omega, by omega⟩ (fun c46 => ?_) (fun c46 => ?_)
              · refine Ev.iconst dX8_laysPieces_71 (Eq.refl 72) ?_
                refine Ev.is1 dX8_laysPieces_72 (Eq.refl 73) (by decide) rfl ?_
                refine Ev.ii2 dX8_laysPieces_73 (Eq.refl 76) (by decide) rfl ?_
                refine Ev.goto' (pc' := 4) dX8_laysPieces_76 (by decide) ?_
                first | exact NX _ _ (if_pos hh).symm (g0 (Or.inl c46)) | exact NX _ _ (if_pos hh).symm (g0 (Or.inr (fun z => by have := z hh; have z2 : szV v k ≤ 100 * vR v := this; omega))) | exact NX _ _ (if_pos hh).symm (g1 c46 (fun _ => by show szV v k ≤ 100 * vR v; omega))
              · refine Ev.aload_n dX8_laysPieces_49 (Eq.refl 50) rfl ?_
                refine Ev.getR dX8_laysPieces_50 (Eq.refl 53) fg_X8_46 rfl rfl (rX8_18 hR) ?_
                refine Ev.iload_n dX8_laysPieces_53 (Eq.refl 54) rfl ?_
                refine Ev.iaload dX8_laysPieces_54 (Eq.refl 55) rfl rfl (by omega) (by decide) (by first | with_reducible exact Int.toNat_natCast _ | exact Eq.refl _) ?_
                rw [hI_eq]
                refine Ev.bipush dX8_laysPieces_55 (Eq.refl 57) (by decide) ?_
                refine Ev.aload_n dX8_laysPieces_57 (Eq.refl 58) rfl ?_
                refine Ev.getR dX8_laysPieces_58 (Eq.refl 61) fg_X8_13 rfl rfl (rX8_3 hR) ?_
                refine Ev.iconst dX8_laysPieces_61 (Eq.refl 62) ?_
                refine Ev.iaload dX8_laysPieces_62 (Eq.refl 63) rfl rfl (by omega) (by decide) (show (2 : Int).toNat = 2 from rfl) ?_
                rw [rR]
                refine Ev.imul dX8_laysPieces_63 (Eq.refl 64) ?_
                refine Ev.icmp_gt (tgt := 71) dX8_laysPieces_64 (Eq.refl 67) (by decide) ⟨by omega, by omega⟩ ⟨by omega, by omega⟩ (fun c64 => ?_) (fun c64 => ?_)
                · refine Ev.iconst dX8_laysPieces_71 (Eq.refl 72) ?_
                  refine Ev.is1 dX8_laysPieces_72 (Eq.refl 73) (by decide) rfl ?_
                  refine Ev.ii2 dX8_laysPieces_73 (Eq.refl 76) (by decide) rfl ?_
                  refine Ev.goto' (pc' := 4) dX8_laysPieces_76 (by decide) ?_
                  first | exact NX _ _ (if_pos hh).symm (g0 (Or.inl c46)) | exact NX _ _ (if_pos hh).symm (g0 (Or.inr (fun z => by have := z hh; have z2 : szV v k ≤ 100 * vR v := this; omega))) | exact NX _ _ (if_pos hh).symm (g1 c46 (fun _ => by show szV v k ≤ 100 * vR v; omega))
                · refine Ev.iconst dX8_laysPieces_67 (Eq.refl 68) ?_
                  refine Ev.goto' (pc' := 72) dX8_laysPieces_68 (by decide) ?_
                  refine Ev.is1 dX8_laysPieces_72 (Eq.refl 73) (by decide) rfl ?_
                  refine Ev.ii2 dX8_laysPieces_73 (Eq.refl 76) (by decide) rfl ?_
                  refine Ev.goto' (pc' := 4) dX8_laysPieces_76 (by decide) ?_
                  first | exact NX _ _ (if_pos hh).symm (g0 (Or.inl c46)) | exact NX _ _ (if_pos hh).symm (g0 (Or.inr (fun z => by have := z hh; have z2 : szV v k ≤ 100 * vR v := this; omega))) | exact NX _ _ (if_pos hh).symm (g1 c46 (fun _ => by show szV v k ≤ 100 * vR v; omega))
        · refine Ev.iload_n dX8_laysPieces_4 (Eq.refl 5) rfl ?_
          refine Ev.aload_n dX8_laysPieces_5 (Eq.refl 6) rfl ?_
          refine Ev.getR dX8_laysPieces_6 (Eq.refl 9) fg_X8_13 rfl rfl (rX8_3 hR) ?_
          refine Ev.iconst dX8_laysPieces_9 (Eq.refl 10) ?_
          refine Ev.iaload dX8_laysPieces_10 (Eq.refl 11) rfl rfl (by omega) (by decide) (show (1 : Int).toNat = 1 from rfl) ?_
          rw [e1]
          refine Ev.icmp_ge (tgt := 79) dX8_laysPieces_11 (Eq.refl 14) (by decide) ⟨by omega, by omega⟩ ⟨by omega, by omega⟩ (fun c11 => ?_) (fun c11 => ?_)
          · omega
          · refine Ev.aload_n dX8_laysPieces_14 (Eq.refl 15) rfl ?_
            refine Ev.getR dX8_laysPieces_15 (Eq.refl 18) fg_X8_46 rfl rfl (rX8_18 hR) ?_
            refine Ev.iload_n dX8_laysPieces_18 (Eq.refl 19) rfl ?_
            refine Ev.aload_n dX8_laysPieces_19 (Eq.refl 20) rfl ?_
            refine Ev.iload_n dX8_laysPieces_20 (Eq.refl 21) rfl ?_
            refine Ev.cv1E dX8_laysPieces_21 (Eq.refl 24) cw_X8_137 (Nat.le_of_ble_eq_true rfl) (by decide) rfl rfl rfl (Nat.le_of_ble_eq_true rfl) (q_hangs B hk2) ?_
            refine Ev.if_eqB (tgt := 42) dX8_laysPieces_24 (Eq.refl 27) (by decide) (fun c24 => ?_) (fun c24 => ?_)
            · refine Ev.bipush dX8_laysPieces_42 (Eq.refl 44) (by decide) ?_
              refine Ev.iastore dX8_laysPieces_44 (Eq.refl 45) rfl rfl (by omega) (by decide) (by first | with_reducible exact Int.toNat_natCast _ | exact Eq.refl _) ?_
              refine Ev.iload_n dX8_laysPieces_45 (Eq.refl 46) rfl ?_
              refine Ev.if_eq (tgt := 71) dX8_laysPieces_46 (Eq.refl 49) (by decide) ⟨by omega, by omega⟩ (fun c46 => ?_) (fun c46 => ?_)
              · refine Ev.iconst dX8_laysPieces_71 (Eq.refl 72) ?_
                refine Ev.is1 dX8_laysPieces_72 (Eq.refl 73) (by decide) rfl ?_
                refine Ev.ii2 dX8_laysPieces_73 (Eq.refl 76) (by decide) rfl ?_
                refine Ev.goto' (pc' := 4) dX8_laysPieces_76 (by decide) ?_
                first | exact NX _ _ (if_neg hh).symm (g0 (Or.inl c46)) | omega | exact NX _ _ (if_neg hh).symm (g1 c46 (fun z => absurd z hh))
              · refine Ev.aload_n dX8_laysPieces_49 (Eq.refl 50) rfl ?_
                refine Ev.getR dX8_laysPieces_50 (Eq.refl 53) fg_X8_46 rfl rfl (rX8_18 hR) ?_
                refine Ev.iload_n dX8_laysPieces_53 (Eq.refl 54) rfl ?_
                refine Ev.iaload dX8_laysPieces_54 (Eq.refl 55) rfl rfl (by omega) (by decide) (by first | with_reducible exact Int.toNat_natCast _ | exact Eq.refl _) ?_
                rw [hI_eq]
                refine Ev.bipush dX8_laysPieces_55 (Eq.refl 57) (by decide) ?_
                refine Ev.aload_n dX8_laysPieces_57 (Eq.refl 58) rfl ?_
                refine Ev.getR dX8_laysPieces_58 (Eq.refl 61) fg_X8_13 rfl rfl (rX8_3 hR) ?_
                refine Ev.iconst dX8_laysPieces_61 (Eq.refl 62) ?_
                refine Ev.iaload dX8_laysPieces_62 (Eq.refl 63) rfl rfl (by omega) (by decide) (show (2 : Int).toNat = 2 from rfl) ?_
                rw [rR]
                refine Ev.imul dX8_laysPieces_63 (Eq.refl 64) ?_
                refine Ev.icmp_gt (tgt := 71) dX8_laysPieces_64 (Eq.refl 67) (by decide) ⟨by omega, by omega⟩ ⟨by omega, by omega⟩ (fun c64 => ?_) (fun c64 => ?_)
                · refine Ev.iconst dX8_laysPieces_71 (Eq.refl 72) ?_
                  refine Ev.is1 dX8_laysPieces_72 (Eq.refl 73) (by decide) rfl ?_
                  refine Ev.ii2 dX8_laysPieces_73 (Eq.refl 76) (by decide) rfl ?_
                  refine Ev.goto' (pc' := 4) dX8_laysPieces_76 (by decide) ?_
                  first | exact NX _ _ (if_neg hh).symm (g0 (Or.inl c46)) | omega | exact NX _ _ (if_neg hh).symm (g1 c46 (fun z => absurd z hh))
                · refine Ev.iconst dX8_laysPieces_67 (Eq.refl 68) ?_
                  refine Ev.goto' (pc' := 72) dX8_laysPieces_68 (by decide) ?_
                  refine Ev.is1 dX8_laysPieces_72 (Eq.refl 73) (by decide) rfl ?_
                  refine Ev.ii2 dX8_laysPieces_73 (Eq.refl 76) (by decide) rfl ?_
                  refine Ev.goto' (pc' := 4) dX8_laysPieces_76 (by decide) ?_
                  first | exact NX _ _ (if_neg hh).symm (g0 (Or.inl c46)) | omega | exact NX _ _ (if_neg hh).symm (g1 c46 (fun z => absurd z hh))
            · exact absurd c24 hh
      · have e : k = vS v := by omega
        subst e
        refine Ev.iload_n dX8_laysPieces_4 (Eq.refl 5) rfl ?_
        refine Ev.aload_n dX8_laysPieces_5 (Eq.refl 6) rfl ?_
        refine Ev.getR dX8_laysPieces_6 (Eq.refl 9) fg_X8_13 rfl rfl (rX8_3 hR) ?_
        refine Ev.iconst dX8_laysPieces_9 (Eq.refl 10) ?_
        refine Ev.iaload dX8_laysPieces_10 (Eq.refl 11) rfl rfl (by omega) (by decide) (show (1 : Int).toNat = 1 from rfl) ?_
        rw [e1]
        refine Ev.icmp_ge (tgt := 79) dX8_laysPieces_11 (Eq.refl 14) (by decide) ⟨by omega, by omega⟩ ⟨by omega, by omega⟩ (fun c11 => ?_) (fun c11 => ?_)
        · refine Ev.iload_n dX8_laysPieces_79 (Eq.refl 80) rfl ?_
          exact Ev.zret dX8_laysPieces_80 rfl (by first | exact bi01 _ | exact Or.inl rfl | exact Or.inr rfl | omega) (⟨_, rfl, hC, hy, hp⟩)
        · omega
  refine Ev.iconst dX8_laysPieces_0 (Eq.refl 1) ?_
  refine Ev.is1 dX8_laysPieces_1 (Eq.refl 2) (by decide) rfl ?_
  refine Ev.iconst dX8_laysPieces_2 (Eq.refl 3) ?_
  refine Ev.is2 dX8_laysPieces_3 (Eq.refl 4) (by decide) rfl ?_
  exact LOOP _ 0 _ _ rfl (by omega) Ck.rf (bi_t (fun s hs => by omega)).symm (fun s hs => by omega)
theorem bef_tr {v : Nv} {a b c : Nat} (h : bef v a b) (g : bef v b c) : bef v a c := by unfold bef at *; omega
theorem m_longest {P k : Nat} {o : Nat → Nat} (B : MB h v) (ha : aH v (hgV v)) (pc : PCS h v) (io : isOrd v P o) (hk : k ≤ P) (r1 : ∀ s, s < vS v → (∃ i, i < k ∧ o i = s) → 0 ≤ h.1 13 s ∧ h.1 13 s ≤ 100) (r2 : ∀ s, s < vS v → (¬ ∃ i, i < k ∧ o i = s) → h.1 13 s = -4) : Ev mX8_longest 0 0 (entL [.ref 0] 4) [] h (PE (if k < P then (o k : Int) else -4) h) := by
  show Ev mX8_longest 0 0 [some (.ref 0), none, none, none] [] h _
  have hv := B.vk
  have hR := B.1
  have e1 := B.s1
  have hS14 := hv.2.1
  -- not yet cut
  have una : ∀ s, s < vS v → (h.1 13 s = -4 ↔ ¬ ∃ i, i < k ∧ o i = s) := fun s hs => ⟨fun z q => by have := r1 s hs q; omega, r2 s hs⟩
  have LOOP : ∀ (m t : Nat) (x : Int) (l3 : Option Value), vS v - t = m → t ≤ vS v → ((x = -4 ∧ ∀ s, s < t → ¬ (vH v s = true ∧ h.1 13 s = -4)) ∨ ∃ f : Nat, f < t ∧ x = (f : Int) ∧ (vH v f = true ∧ h.1 13 f = -4) ∧ ∀ s, s < t → (vH v s = true ∧ h.1 13 s = -4) → s ≠ f → bef v f s) → Ev mX8_longest 0 5 [some (.ref 0), some (iv x), some (iv (t : Int)), l3] [] h (PE (if k < P then (o k : Int) else -4) h) := by
    intro m
    induction m using Nat.strongRecOn with
    | ind m ih =>
      intro t x l3 hm ht hx
      by_cases ht2 : t < vS v
      · have hlt : vS v - (t + 1) < m ∧ t + 1 ≤ vS v := by clear hx; omega
        have pt := pc t ht2
        have sb := szV_b hv ha ht2
        have r13 : -4 ≤ h.1 13 t ∧ h.1 13 t ≤ 100 := by
          by_cases q : ∃ i, i < k ∧ o i = t
          · have := r1 t ht2 q; omega
          · have := r2 t ht2 q; omega
        have keep : ¬ (vH v t = true ∧ h.1 13 t = -4) → ∀ l3, Ev mX8_longest 0 5 [some (.ref 0), some (iv x), some (iv ((t : Int) + 1)), l3] [] h (PE (if k < P then (o k : Int) else -4) h) := fun q l3 => ih _ hlt.1 (t + 1) x l3 rfl hlt.2 (by
          rcases hx with ⟨z1, z2⟩ | ⟨f, f1, f2, f3, f4⟩
          · exact Or.inl ⟨z1, fun s hs => if e : s = t then by rw [e]; exact q else z2 s (by omega)⟩
          · exact Or.inr ⟨f, by omega, f2, f3, fun s hs hu hn => if e : s = t then absurd (e ▸ hu) q else f4 s (by omega) hu hn⟩)
        by_cases hh : vH v t = true
        · rw [if_pos hh] at pt
          have take : h.1 13 t = -4 → (∀ f : Nat, f < t → x = (f : Int) → vH v f = true ∧ h.1 13 f = -4 → (∀ s, s < t → (vH v s = true ∧ h.1 13 s = -4) → s ≠ f → bef v f s) → len v f < len v t) → ∀ l3, Ev mX8_longest 0 5 [some (.ref 0), some (iv (t : Int)), some (iv ((t : Int) + 1)), l3] [] h (PE (if k < P then (o k : Int) else -4) h) := fun q w l3 => ih _ hlt.1 (t + 1) _ l3 rfl hlt.2 (Or.inr ⟨t, Nat.lt_succ_self t, rfl, ⟨hh, q⟩, fun s hs hu hn => by
            rcases hx with ⟨z1, z2⟩ | ⟨f, f1, f2, f3, f4⟩
            · exact absurd hu (z2 s (by omega))
            · have l := w f f1 f2 f3 f4
              by_cases e : s = f
              · rw [e]; exact Or.inl l
              · exact bef_tr (Or.inl l) (f4 s (by omega) hu e)⟩)
          rcases hx with ⟨z1, z2⟩ | ⟨f, f1, f2, f3, f4⟩
          · subst z1
            refine Ev.iload_n dX8_longest_5 (Eq.refl 6) rfl ?_
            refine Ev.aload_n dX8_longest_6 (Eq.refl 7) rfl ?_
            refine Ev.getR dX8_longest_7 (Eq.refl 10) fg_X8_13 rfl rfl (rX8_3 hR) ?_
            refine Ev.iconst dX8_longest_10 (Eq.refl 11) ?_
            refine Ev.iaload dX8_longest_11 (Eq.refl 12) rfl rfl (by omega) (by decide) (show (1 : Int).toNat = 1 from rfl) ?_
            rw [e1]
            refine Ev.icmp_ge (tgt := 78) dX8_longest_12 (Eq.refl 15) (by decide) ⟨by omega, by omega⟩ ⟨by omega, by omega⟩ (fun c12 => ?_) (fun c12 => ?_)
            · omega
            · refine Ev.aload_n dX8_longest_15 (Eq.refl 16) rfl ?_
              refine Ev.getR dX8_longest_16 (Eq.refl 19) fg_X8_46 rfl rfl (rX8_18 hR) ?_
              refine Ev.iload_n dX8_longest_19 (Eq.refl 20) rfl ?_
              refine Ev.iaload dX8_longest_20 (Eq.refl 21) rfl rfl (by omega) (by decide) (by first | with_reducible exact Int.toNat_natCast _ | exact Eq.refl _) ?_
              rw [pt]
              refine Ev.if_lt (tgt := 39) dX8_longest_21 (Eq.refl 24) (by decide) ⟨by omega, by omega⟩ (fun c21 => ?_) (fun c21 => ?_)
              · omega
              · refine Ev.aload_n dX8_longest_24 (Eq.refl 25) rfl ?_
                refine Ev.getR dX8_longest_25 (Eq.refl 28) fg_X8_49 rfl rfl (rX8_19 hR) ?_
                refine Ev.iload_n dX8_longest_28 (Eq.refl 29) rfl ?_
                refine Ev.iaload dX8_longest_29 (Eq.refl 30) rfl rfl (by omega) (by decide) (by first | with_reducible exact Int.toNat_natCast _ | exact Eq.refl _) ?_
                refine Ev.bipush dX8_longest_30 (Eq.refl 32) (by decide) ?_
                refine Ev.icmp_ne (tgt := 39) dX8_longest_32 (Eq.refl 35) (by decide) ⟨by omega, by omega⟩ ⟨by omega, by omega⟩ (fun c32 => ?_) (fun c32 => ?_)
                · refine Ev.iconst dX8_longest_39 (Eq.refl 40) ?_
                  refine Ev.is3 dX8_longest_40 (Eq.refl 41) (by decide) rfl ?_
                  refine Ev.iload_n dX8_longest_41 (Eq.refl 42) rfl ?_
                  refine Ev.if_eq (tgt := 70) dX8_longest_42 (Eq.refl 45) (by decide) ⟨by decide, by decide⟩ (fun _ => ?_) (fun c => absurd (by decide) c)
                  refine Ev.iload_n dX8_longest_70 (Eq.refl 71) rfl ?_
                  refine Ev.is1 dX8_longest_71 (Eq.refl 72) (by decide) rfl ?_
                  refine Ev.ii2 dX8_longest_72 (Eq.refl 75) (by decide) rfl ?_
                  refine Ev.goto' (pc' := 5) dX8_longest_75 (by decide) ?_
                  first | omega | exact take c32 (fun f l e => by omega) _ | exact keep (fun z => c32 z.2) _
                · refine Ev.iconst dX8_longest_35 (Eq.refl 36) ?_
                  refine Ev.goto' (pc' := 40) dX8_longest_36 (by decide) ?_
                  refine Ev.is3 dX8_longest_40 (Eq.refl 41) (by decide) rfl ?_
                  refine Ev.iload_n dX8_longest_41 (Eq.refl 42) rfl ?_
                  refine Ev.if_eq (tgt := 70) dX8_longest_42 (Eq.refl 45) (by decide) ⟨by decide, by decide⟩ (fun c => absurd c (by decide)) (fun _ => ?_)
                  refine Ev.iload_n dX8_longest_45 (Eq.refl 46) rfl ?_
                  refine Ev.bipush dX8_longest_46 (Eq.refl 48) (by decide) ?_
                  refine Ev.icmp_eq (tgt := 66) dX8_longest_48 (Eq.refl 51) (by decide) ⟨by omega, by omega⟩ ⟨by omega, by omega⟩ (fun c48 => ?_) (fun c48 => ?_)
                  · refine Ev.iload_n dX8_longest_66 (Eq.refl 67) rfl ?_
                    refine Ev.goto' (pc' := 71) dX8_longest_67 (by decide) ?_
                    refine Ev.is1 dX8_longest_71 (Eq.refl 72) (by decide) rfl ?_
                    refine Ev.ii2 dX8_longest_72 (Eq.refl 75) (by decide) rfl ?_
                    refine Ev.goto' (pc' := 5) dX8_longest_75 (by decide) ?_
                    first | omega | exact take c32 (fun f l e => by omega) _ | exact keep (fun z => c32 z.2) _
                  · omega
          · subst f2
            have pf := pc f (by omega)
            rw [if_pos f3.1] at pf
            have fb := szV_b hv ha (s := f) (by omega)
            have ll : szV v t - szV v f = len v t - len v f := by unfold szV; omega
            have stay : szV v t ≤ szV v f → ∀ l3, Ev mX8_longest 0 5 [some (.ref 0), some (iv (f : Int)), some (iv ((t : Int) + 1)), l3] [] h (PE (if k < P then (o k : Int) else -4) h) := fun q l3 => ih _ (by omega) (t + 1) _ l3 rfl (by omega) (Or.inr ⟨f, by omega, rfl, f3, fun s hs hu hn => if e : s = t then by rw [e]; unfold bef; omega else f4 s (by omega) hu hn⟩)
            refine Ev.iload_n dX8_longest_5 (Eq.refl 6) rfl ?_
            refine Ev.aload_n dX8_longest_6 (Eq.refl 7) rfl ?_
            refine Ev.getR dX8_longest_7 (Eq.refl 10) fg_X8_13 rfl rfl (rX8_3 hR) ?_
            refine Ev.iconst dX8_longest_10 (Eq.refl 11) ?_
            refine Ev.iaload dX8_longest_11 (Eq.refl 12) rfl rfl (by omega) (by decide) (show (1 : Int).toNat = 1 from rfl) ?_
            rw [e1]
            refine Ev.icmp_ge (tgt := 78) dX8_longest_12 (Eq.refl 15) (by decide) ⟨by omega, by omega⟩ ⟨by omega, by omega⟩ (fun c12 => ?_) (fun c12 => ?_)
            · omega
            · refine Ev.aload_n dX8_longest_15 (Eq.refl 16) rfl ?_
              refine Ev.getR dX8_longest_16 (Eq.refl 19) fg_X8_46 rfl rfl (rX8_18 hR) ?_
              refine Ev.iload_n dX8_longest_19 (Eq.refl 20) rfl ?_
              refine Ev.iaload dX8_longest_20 (Eq.refl 21) rfl rfl (by omega) (by decide) (by first | with_reducible exact Int.toNat_natCast _ | exact Eq.refl _) ?_
              rw [pt]
              refine Ev.if_lt (tgt := 39) dX8_longest_21 (Eq.refl 24) (by decide) ⟨by omega, by omega⟩ (fun c21 => ?_) (fun c21 => ?_)
              · omega
              · refine Ev.aload_n dX8_longest_24 (Eq.refl 25) rfl ?_
                refine Ev.getR dX8_longest_25 (Eq.refl 28) fg_X8_49 rfl rfl (rX8_19 hR) ?_
                refine Ev.iload_n dX8_longest_28 (Eq.refl 29) rfl ?_
                refine Ev.iaload dX8_longest_29 (Eq.refl 30) rfl rfl (by omega) (by decide) (by first | with_reducible exact Int.toNat_natCast _ | exact Eq.refl _) ?_
                refine Ev.bipush dX8_longest_30 (Eq.refl 32) (by decide) ?_
                refine Ev.icmp_ne (tgt := 39) dX8_longest_32 (Eq.refl 35) (by decide) ⟨by omega, by omega⟩ ⟨by omega, by omega⟩ (fun c32 => ?_) (fun c32 => ?_)
                · refine Ev.iconst dX8_longest_39 (Eq.refl 40) ?_
                  refine Ev.is3 dX8_longest_40 (Eq.refl 41) (by decide) rfl ?_
                  refine Ev.iload_n dX8_longest_41 (Eq.refl 42) rfl ?_
                  refine Ev.if_eq (tgt := 70) dX8_longest_42 (Eq.refl 45) (by decide) ⟨by decide, by decide⟩ (fun _ => ?_) (fun c => absurd (by decide) c)
                  refine Ev.iload_n dX8_longest_70 (Eq.refl 71) rfl ?_
                  refine Ev.is1 dX8_longest_71 (Eq.refl 72) (by decide) rfl ?_
                  refine Ev.ii2 dX8_longest_72 (Eq.refl 75) (by decide) rfl ?_
                  refine Ev.goto' (pc' := 5) dX8_longest_75 (by decide) ?_
                  first | omega | exact take c32 (fun f' l e _ _ => by have : f' = f := (by omega); subst this; omega) _ | exact stay (by omega) _ | exact keep (fun z => c32 z.2) _
                · refine Ev.iconst dX8_longest_35 (Eq.refl 36) ?_
                  refine Ev.goto' (pc' := 40) dX8_longest_36 (by decide) ?_
                  refine Ev.is3 dX8_longest_40 (Eq.refl 41) (by decide) rfl ?_
                  refine Ev.iload_n dX8_longest_41 (Eq.refl 42) rfl ?_
                  refine Ev.if_eq (tgt := 70) dX8_longest_42 (Eq.refl 45) (by decide) ⟨by decide, by decide⟩ (fun c => absurd c (by decide)) (fun _ => ?_)
                  refine Ev.iload_n dX8_longest_45 (Eq.refl 46) rfl ?_
                  refine Ev.bipush dX8_longest_46 (Eq.refl 48) (by decide) ?_
                  refine Ev.icmp_eq (tgt := 66) dX8_longest_48 (Eq.refl 51) (by decide) ⟨by omega, by omega⟩ ⟨by omega, by omega⟩ (fun c48 => ?_) (fun c48 => ?_)
                  · omega
                  · refine Ev.aload_n dX8_longest_51 (Eq.refl 52) rfl ?_
                    refine Ev.getR dX8_longest_52 (Eq.refl 55) fg_X8_46 rfl rfl (rX8_18 hR) ?_
                    refine Ev.iload_n dX8_longest_55 (Eq.refl 56) rfl ?_
                    refine Ev.iaload dX8_longest_56 (Eq.refl 57) rfl rfl (by omega) (by decide) (by first | with_reducible exact Int.toNat_natCast _ | exact Eq.refl _) ?_
                    rw [pt]
                    refine Ev.aload_n dX8_longest_57 (Eq.refl 58) rfl ?_
                    refine Ev.getR dX8_longest_58 (Eq.refl 61) fg_X8_46 rfl rfl (rX8_18 hR) ?_
                    refine Ev.iload_n dX8_longest_61 (Eq.refl 62) rfl ?_
                    refine Ev.iaload dX8_longest_62 (Eq.refl 63) rfl rfl (by omega) (by decide) (by first | with_reducible exact Int.toNat_natCast _ | exact Eq.refl _) ?_
                    rw [pf]
                    refine Ev.icmp_le (tgt := 70) dX8_longest_63 (Eq.refl 66) (by decide) ⟨by omega, by omega⟩ ⟨by omega, by omega⟩ (fun c63 => ?_) (fun c63 => ?_)
                    · refine Ev.iload_n dX8_longest_70 (Eq.refl 71) rfl ?_
                      refine Ev.is1 dX8_longest_71 (Eq.refl 72) (by decide) rfl ?_
                      refine Ev.ii2 dX8_longest_72 (Eq.refl 75) (by decide) rfl ?_
                      refine Ev.goto' (pc' := 5) dX8_longest_75 (by decide) ?_
                      first | omega | exact take c32 (fun f' l e _ _ => by have : f' = f := (by omega); subst this; omega) _ | exact stay (by omega) _ | exact keep (fun z => c32 z.2) _
                    · refine Ev.iload_n dX8_longest_66 (Eq.refl 67) rfl ?_
                      refine Ev.goto' (pc' := 71) dX8_longest_67 (by decide) ?_
                      refine Ev.is1 dX8_longest_71 (Eq.refl 72) (by decide) rfl ?_
                      refine Ev.ii2 dX8_longest_72 (Eq.refl 75) (by decide) rfl ?_
                      refine Ev.goto' (pc' := 5) dX8_longest_75 (by decide) ?_
                      first | omega | exact take c32 (fun f' l e _ _ => by have : f' = f := (by omega); subst this; omega) _ | exact stay (by omega) _ | exact keep (fun z => c32 z.2) _
        · rw [if_neg hh] at pt
          refine Ev.iload_n dX8_longest_5 (Eq.refl 6) rfl ?_
          refine Ev.aload_n dX8_longest_6 (Eq.refl 7) rfl ?_
          refine Ev.getR dX8_longest_7 (Eq.refl 10) fg_X8_13 rfl rfl (rX8_3 hR) ?_
          refine Ev.iconst dX8_longest_10 (Eq.refl 11) ?_
          refine Ev.iaload dX8_longest_11 (Eq.refl 12) rfl rfl (by omega) (by decide) (show (1 : Int).toNat = 1 from rfl) ?_
          rw [e1]
          refine Ev.icmp_ge (tgt := 78) dX8_longest_12 (Eq.refl 15) (by decide) ⟨by omega, by omega⟩ ⟨by omega, by omega⟩ (fun c12 => ?_) (fun c12 => ?_)
          · omega
          · refine Ev.aload_n dX8_longest_15 (Eq.refl 16) rfl ?_
            refine Ev.getR dX8_longest_16 (Eq.refl 19) fg_X8_46 rfl rfl (rX8_18 hR) ?_
            refine Ev.iload_n dX8_longest_19 (Eq.refl 20) rfl ?_
            refine Ev.iaload dX8_longest_20 (Eq.refl 21) rfl rfl (by omega) (by decide) (by first | with_reducible exact Int.toNat_natCast _ | exact Eq.refl _) ?_
            rw [pt]
            refine Ev.if_lt (tgt := 39) dX8_longest_21 (Eq.refl 24) (by decide) ⟨by omega, by omega⟩ (fun c21 => ?_) (fun c21 => ?_)
            · refine Ev.iconst dX8_longest_39 (Eq.refl 40) ?_
              refine Ev.is3 dX8_longest_40 (Eq.refl 41) (by decide) rfl ?_
              refine Ev.iload_n dX8_longest_41 (Eq.refl 42) rfl ?_
              refine Ev.if_eq (tgt := 70) dX8_longest_42 (Eq.refl 45) (by decide) ⟨by decide, by decide⟩ (fun _ => ?_) (fun c => absurd (by decide) c)
              refine Ev.iload_n dX8_longest_70 (Eq.refl 71) rfl ?_
              refine Ev.is1 dX8_longest_71 (Eq.refl 72) (by decide) rfl ?_
              refine Ev.ii2 dX8_longest_72 (Eq.refl 75) (by decide) rfl ?_
              refine Ev.goto' (pc' := 5) dX8_longest_75 (by decide) ?_
              exact keep (fun z => hh z.1) _
            · omega
      · have e : t = vS v := by omega
        subst e
        have fin : x = if k < P then (o k : Int) else -4 := by
          rcases hx with ⟨z1, z2⟩ | ⟨f, f1, f2, f3, f4⟩
          · rw [if_neg, z1]
            intro l
            have q := io.1 k l
            refine z2 (o k) q.1 ⟨q.2, (una _ q.1).mpr ?_⟩
            rintro ⟨i, i1, i2⟩
            have := isOrd_inj io (i := i) (j := k) (by omega) l i2
            omega
          · obtain ⟨i, i1, i2⟩ := io.2.2 f f1 f3.1
            have ik : k ≤ i := Nat.le_of_not_lt fun l => (una f f1).mp f3.2 ⟨i, l, i2⟩
            have l : k < P := by omega
            rw [if_pos l, f2]
            by_cases e : o k = f
            · rw [e]
            · have q := io.1 k l
              have b1 := f4 (o k) q.1 ⟨q.2, (una _ q.1).mpr (by
                rintro ⟨j, j1, j2⟩
                have := isOrd_inj io (i := j) (j := k) (by omega) l j2
                omega)⟩ e
              have : i ≠ k := fun z => e (by rw [← z]; exact i2)
              have b2 := io.2.1 k i (by omega) i1
              rw [i2] at b2
              exact absurd b2 (fun z => bef_as b1 z)
        refine Ev.iload_n dX8_longest_5 (Eq.refl 6) rfl ?_
        refine Ev.aload_n dX8_longest_6 (Eq.refl 7) rfl ?_
        refine Ev.getR dX8_longest_7 (Eq.refl 10) fg_X8_13 rfl rfl (rX8_3 hR) ?_
        refine Ev.iconst dX8_longest_10 (Eq.refl 11) ?_
        refine Ev.iaload dX8_longest_11 (Eq.refl 12) rfl rfl (by omega) (by decide) (show (1 : Int).toNat = 1 from rfl) ?_
        rw [e1]
        refine Ev.icmp_ge (tgt := 78) dX8_longest_12 (Eq.refl 15) (by decide) ⟨by omega, by omega⟩ ⟨by omega, by omega⟩ (fun c12 => ?_) (fun c12 => ?_)
        · refine Ev.iload_n dX8_longest_78 (Eq.refl 79) rfl ?_
          exact Ev.iret dX8_longest_79 rfl (PE.of fin)
        · omega
  refine Ev.bipush dX8_longest_0 (Eq.refl 2) (by decide) ?_
  refine Ev.is1 dX8_longest_2 (Eq.refl 3) (by decide) rfl ?_
  refine Ev.iconst dX8_longest_3 (Eq.refl 4) ?_
  refine Ev.is2 dX8_longest_4 (Eq.refl 5) (by decide) rfl ?_
  exact LOOP _ 0 _ _ rfl (by omega) (Or.inl ⟨rfl, fun s hs => by omega⟩)
def FFd (h : Hp) (v : Nv) (P : Nat) (o : Nat → Nat) (k : Nat) : Prop := (∀ r, r < 14 → h.1 14 r = (ff (Zr v) (xs v P o) k).1 r) ∧ h.1 0 21 = ((ff (Zr v) (xs v P o) k).2 : Int) ∧ (∀ i, i < k → h.1 13 (o i) = (ffr (Zr v) (xs v P o) i : Int)) ∧ ∀ s, s < vS v → (¬ ∃ i, i < k ∧ o i = s) → h.1 13 s = -4
theorem m_firstFit {P : Nat} {o : Nat → Nat} (B : MB h v) (ha : aH v (hgV v)) (pc : PCS h v) (fa : fitAll v) (io : isOrd v P o) (hP : P ≤ vS v) : Ev mX8_firstFit 1 0 (entL [.ref 0] 3) [] h (PV (fun h' => Ck h h' ∧ FFd h' v P o P)) := by
  show Ev mX8_firstFit 1 0 [some (.ref 0), none, none] [] h _
  have hv := B.vk
  have hS14 := hv.2.1
  have bR := hv.2.2.2.2.2.2.2
  have x0 := xs_0 hv ha io
  have xZ : ∀ i, xs v P o i ≤ Zr v := fun i => by
    unfold xs
    by_cases q : i < P
    · rw [if_pos q]; exact fa _ (io.1 i q).1 (io.1 i q).2
    · rw [if_neg q]; show (0 : Int) ≤ 100 * vR v; omega
  have zb : 100 ≤ Zr v ∧ Zr v ≤ 9900 := ⟨by show (100 : Int) ≤ 100 * vR v; omega, by show 100 * vR v ≤ 9900; omega⟩
  have MAIN : ∀ (m k : Nat) (g : Hp) (l2 : Option Value), P - k = m → k ≤ P → Ck h g → (∀ j, g.1 12 j = h.1 12 j) → FFd g v P o k → Ev mX8_firstFit 1 47 [some (.ref 0), some (iv (if k < P then (o k : Int) else -4)), l2] [] g (PV (fun h' => Ck h h' ∧ FFd h' v P o P)) := by
    intro m
    induction m using Nat.strongRecOn with
    | ind m ih =>
      intro k g l2 hm hk hC h12 hF
      have Bg := B.ck hC
      have hR := Bg.1
      by_cases hk2 : k < P
      · rw [if_pos hk2]
        have ok_ := io.1 k hk2
        have eX : xs v P o k = szV v (o k) := if_pos hk2
        have pk : g.1 12 (o k) = xs v P o k := by rw [h12, pc (o k) ok_.1, if_pos ok_.2, eX]
        obtain ⟨f1, f2, f3⟩ := ffr_le (Z := Zr v) (x := xs v P o) (k := k) (by omega) (fun i _ => ⟨x0 i, xZ i⟩)
        obtain ⟨n1, n2, n3, n4⟩ := ff_inv (Z := Zr v) (x := xs v P o) k (by omega) (fun i _ => ⟨x0 i, xZ i⟩)
        obtain ⟨hL, hu, hr, hno⟩ := hF
        have xb := x0 k
        have xb2 := xZ k
        have FF1 : (ff (Zr v) (xs v P o) (k + 1)).1 = up (ff (Zr v) (xs v P o) k).1 (ffr (Zr v) (xs v P o) k) ((ff (Zr v) (xs v P o) k).1 (ffr (Zr v) (xs v P o) k) - xs v P o k) := rfl
        have FF2 : (ff (Zr v) (xs v P o) (k + 1)).2 = if (ff (Zr v) (xs v P o) k).2 < ffr (Zr v) (xs v P o) k + 1 then ffr (Zr v) (xs v P o) k + 1 else (ff (Zr v) (xs v P o) k).2 := rfl
        have eR : ∀ r, r < 14 → (∀ i, i < r → (ff (Zr v) (xs v P o) k).1 i < xs v P o k) → xs v P o k ≤ (ff (Zr v) (xs v P o) k).1 r → ffr (Zr v) (xs v P o) k = r := fun r h1 h2 h3 => lsf_of 14 h1 h2 h3
        have r14 : ffr (Zr v) (xs v P o) k < 14 := by omega
        generalize hr0 : ffr (Zr v) (xs v P o) k = r0 at *
        generalize hLk : (ff (Zr v) (xs v P o) k).1 = L at *
        generalize huk : (ff (Zr v) (xs v P o) k).2 = u at *
        generalize hxk : xs v P o k = xk at *
        have NX : ∀ (f : Hp) (y : Int) (l2 : Option Value), y = ((ff (Zr v) (xs v P o) (k + 1)).2 : Int) → f = hI (hI (hI g 14 r0 (L r0 - xk)) 13 (o k) (r0 : Int)) 0 21 y → Ev mX8_firstFit 1 122 [some (.ref 0), some (iv (o k : Int)), l2] [] f (PV (fun h' => Ck h h' ∧ FFd h' v P o P)) := by
          intro f y l2 ey ef
          have hCf : Ck h f := by rw [ef]; exact ((hC.w (by omega)).w (by omega)).w (by omega)
          have f12 : ∀ j, f.1 12 j = h.1 12 j := fun j => by rw [ef, hI_ni (by omega), hI_ni (by omega), hI_ni (by omega)]; exact h12 j
          have f13 : ∀ s, f.1 13 s = if s = o k then (r0 : Int) else g.1 13 s := fun s => by
            rw [ef, hI_ni (by omega), hI_rd]
            by_cases e : s = o k
            · rw [if_pos ⟨rfl, e⟩, if_pos e]
            · rw [if_neg (fun z => e z.2), if_neg e, hI_ni (by omega)]
          have FD : FFd f v P o (k + 1) := by
            refine ⟨fun r hr14 => ?_, ?_, fun i hi => ?_, fun s hs hn => ?_⟩
            · rw [FF1, ef, hI_ni (by omega), hI_ni (by omega), hI_rd]
              unfold up
              by_cases e : r = r0
              · rw [if_pos ⟨rfl, e⟩, if_pos e]
              · rw [if_neg (fun z => e z.2), if_neg e]; exact hL r hr14
            · rw [ef, hI_eq, ey]
            · rw [f13]
              by_cases e : i = k
              · rw [e, if_pos rfl, hr0]
              · rw [if_neg (fun z => e (isOrd_inj io (by omega) hk2 z))]; exact hr i (by omega)
            · rw [f13, if_neg (fun z => hn ⟨k, by omega, z.symm⟩)]
              exact hno s hs (fun ⟨i, i1, i2⟩ => hn ⟨i, by omega, i2⟩)
          have Bf := B.ck hCf
          have pcf : PCS f v := fun s hs => by rw [f12]; exact pc s hs
          have cL := m_longest (k := k + 1) Bf ha pcf io (by omega) (fun s hs q => by
            obtain ⟨i, i1, i2⟩ := q
            rw [← i2, FD.2.2.1 i i1]
            have z := (ffr_le (Z := Zr v) (x := xs v P o) (k := i) (by omega) (fun i _ => ⟨x0 i, xZ i⟩)).2.1
            have z2 := (ff_inv (Z := Zr v) (x := xs v P o) i (by omega) (fun i _ => ⟨x0 i, xZ i⟩)).1
            omega) FD.2.2.2
          refine Ev.aload_n dX8_firstFit_122 (Eq.refl 123) rfl ?_
          refine Ev.cv0E dX8_firstFit_123 (Eq.refl 126) cw_X8_227 (Nat.le_of_ble_eq_true rfl) (by decide) rfl rfl rfl (Nat.le_of_ble_eq_true rfl) (cL) ?_
          refine Ev.is1 dX8_firstFit_126 (Eq.refl 127) (by decide) rfl ?_
          refine Ev.goto' (pc' := 47) dX8_firstFit_127 (by decide) ?_
          exact ih _ (by omega) (k + 1) f _ rfl (by omega) hCf f12 FD
        have IN : ∀ (m2 r : Nat), r0 - r = m2 → r ≤ r0 → (∀ i, i < r → L i < xk) → Ev mX8_firstFit 1 55 [some (.ref 0), some (iv (o k : Int)), some (iv (r : Int))] [] g (PV (fun h' => Ck h h' ∧ FFd h' v P o P)) := by
          intro m2
          induction m2 using Nat.strongRecOn with
          | ind m2 ih2 =>
            intro r hm2 hr hlt
            have eL := hL r (by omega)
            have Lb := n3 r (by omega)
            by_cases l : L r < xk
            · have ne : r ≠ r0 := fun z => by rw [z] at l; omega
              refine Ev.aload_n dX8_firstFit_55 (Eq.refl 56) rfl ?_
              refine Ev.getR dX8_firstFit_56 (Eq.refl 59) fg_X8_52 rfl rfl (rX8_20 hR) ?_
              refine Ev.iload_n dX8_firstFit_59 (Eq.refl 60) rfl ?_
              refine Ev.iaload dX8_firstFit_60 (Eq.refl 61) rfl rfl (by omega) (by decide) (by first | with_reducible exact Int.toNat_natCast _ | exact Eq.refl _) ?_
              rw [eL]
              refine Ev.aload_n dX8_firstFit_61 (Eq.refl 62) rfl ?_
              refine Ev.getR dX8_firstFit_62 (Eq.refl 65) fg_X8_46 rfl rfl (rX8_18 hR) ?_
              refine Ev.iload_n dX8_firstFit_65 (Eq.refl 66) rfl ?_
              refine Ev.iaload dX8_firstFit_66 (Eq.refl 67) rfl rfl (by omega) (by decide) (by first | with_reducible exact Int.toNat_natCast _ | exact Eq.refl _) ?_
              rw [pk]
              refine Ev.icmp_ge (tgt := 76) dX8_firstFit_67 (Eq.refl 70) (by decide) ⟨by omega, by omega⟩ ⟨by omega, by omega⟩ (fun c67 => ?_) (fun c67 => ?_)
              · omega
              · refine Ev.ii2 dX8_firstFit_70 (Eq.refl 73) (by decide) rfl ?_
                refine Ev.goto' (pc' := 55) dX8_firstFit_73 (by decide) ?_
                exact ih2 _ (by omega) (r + 1) rfl (by omega) (fun i hi => if e : i = r then by rw [e]; exact l else hlt i (by omega))
            · have e := eR r (by omega) hlt (by omega)
              subst e
              have hpk2 : (hI g 14 r0 (L r0 - xk)).1 12 (o k) = xk := by rw [hI_ni (by omega)]; exact pk
              have eu : (hI (hI g 14 r0 (L r0 - xk)) 13 (o k) (r0 : Int)).1 0 21 = (u : Int) := by rw [hI_ni (by omega), hI_ni (by omega)]; exact hu
              refine Ev.aload_n dX8_firstFit_55 (Eq.refl 56) rfl ?_
              refine Ev.getR dX8_firstFit_56 (Eq.refl 59) fg_X8_52 rfl rfl (rX8_20 hR) ?_
              refine Ev.iload_n dX8_firstFit_59 (Eq.refl 60) rfl ?_
              refine Ev.iaload dX8_firstFit_60 (Eq.refl 61) rfl rfl (by omega) (by decide) (by first | with_reducible exact Int.toNat_natCast _ | exact Eq.refl _) ?_
              rw [eL]
              refine Ev.aload_n dX8_firstFit_61 (Eq.refl 62) rfl ?_
              refine Ev.getR dX8_firstFit_62 (Eq.refl 65) fg_X8_46 rfl rfl (rX8_18 hR) ?_
              refine Ev.iload_n dX8_firstFit_65 (Eq.refl 66) rfl ?_
              refine Ev.iaload dX8_firstFit_66 (Eq.refl 67) rfl rfl (by omega) (by decide) (by first | with_reducible exact Int.toNat_natCast _ | exact Eq.refl _) ?_
              rw [pk]
              refine Ev.icmp_ge (tgt := 76) dX8_firstFit_67 (Eq.refl 70) (by decide) ⟨by omega, by omega⟩ ⟨by omega, by omega⟩ (fun c67 => ?_) (fun c67 => ?_)
              · refine Ev.aload_n dX8_firstFit_76 (Eq.refl 77) rfl ?_
                refine Ev.getR dX8_firstFit_77 (Eq.refl 80) fg_X8_52 rfl rfl (rX8_20 hR) ?_
                refine Ev.iload_n dX8_firstFit_80 (Eq.refl 81) rfl ?_
                refine Ev.dup2 dX8_firstFit_81 (Eq.refl 82) rfl rfl ?_
                refine Ev.iaload dX8_firstFit_82 (Eq.refl 83) rfl rfl (by omega) (by decide) (by first | with_reducible exact Int.toNat_natCast _ | exact Eq.refl _) ?_
                rw [eL]
                refine Ev.aload_n dX8_firstFit_83 (Eq.refl 84) rfl ?_
                refine Ev.getR dX8_firstFit_84 (Eq.refl 87) fg_X8_46 rfl rfl (rX8_18 hR) ?_
                refine Ev.iload_n dX8_firstFit_87 (Eq.refl 88) rfl ?_
                refine Ev.iaload dX8_firstFit_88 (Eq.refl 89) rfl rfl (by omega) (by decide) (by first | with_reducible exact Int.toNat_natCast _ | exact Eq.refl _) ?_
                rw [pk]
                refine Ev.isub dX8_firstFit_89 (Eq.refl 90) ?_
                refine Ev.iastore dX8_firstFit_90 (Eq.refl 91) rfl rfl (by omega) (by decide) (by first | with_reducible exact Int.toNat_natCast _ | exact Eq.refl _) ?_
                refine Ev.aload_n dX8_firstFit_91 (Eq.refl 92) rfl ?_
                refine Ev.getR dX8_firstFit_92 (Eq.refl 95) fg_X8_49 rfl rfl (rX8_19 hR) ?_
                refine Ev.iload_n dX8_firstFit_95 (Eq.refl 96) rfl ?_
                refine Ev.iload_n dX8_firstFit_96 (Eq.refl 97) rfl ?_
                refine Ev.iastore dX8_firstFit_97 (Eq.refl 98) rfl rfl (by omega) (by decide) (by first | with_reducible exact Int.toNat_natCast _ | exact Eq.refl _) ?_
                refine Ev.aload_n dX8_firstFit_98 (Eq.refl 99) rfl ?_
                refine Ev.iload_n dX8_firstFit_99 (Eq.refl 100) rfl ?_
                refine Ev.iconst dX8_firstFit_100 (Eq.refl 101) ?_
                refine Ev.iadd dX8_firstFit_101 (Eq.refl 102) ?_
                refine Ev.aload_n dX8_firstFit_102 (Eq.refl 103) rfl ?_
                refine Ev.getI dX8_firstFit_103 (Eq.refl 106) fg_X8_224 rfl rfl ?_
                rw [eu]
                refine Ev.icmp_le (tgt := 115) dX8_firstFit_106 (Eq.refl 109) (by decide) ⟨by omega, by omega⟩ ⟨by omega, by omega⟩ (fun c106 => ?_) (fun c106 => ?_)
                · refine Ev.aload_n dX8_firstFit_115 (Eq.refl 116) rfl ?_
                  refine Ev.getI dX8_firstFit_116 (Eq.refl 119) fg_X8_224 rfl rfl ?_
                  rw [eu]
                  refine Ev.putI dX8_firstFit_119 (Eq.refl 122) fp_X8_224 rfl rfl (Or.inl rfl) ?_
                  exact NX _ _ _ (by rw [FF2]; split <;> omega) rfl
                · refine Ev.iload_n dX8_firstFit_109 (Eq.refl 110) rfl ?_
                  refine Ev.iconst dX8_firstFit_110 (Eq.refl 111) ?_
                  refine Ev.iadd dX8_firstFit_111 (Eq.refl 112) ?_
                  refine Ev.goto' (pc' := 119) dX8_firstFit_112 (by decide) ?_
                  refine Ev.putI dX8_firstFit_119 (Eq.refl 122) fp_X8_224 rfl rfl (Or.inl rfl) ?_
                  exact NX _ _ _ (by rw [FF2]; split <;> omega) rfl
              · omega
        refine Ev.iload_n dX8_firstFit_47 (Eq.refl 48) rfl ?_
        refine Ev.bipush dX8_firstFit_48 (Eq.refl 50) (by decide) ?_
        refine Ev.icmp_eq (tgt := 130) dX8_firstFit_50 (Eq.refl 53) (by decide) ⟨by omega, by omega⟩ ⟨by omega, by omega⟩ (fun c50 => ?_) (fun c50 => ?_)
        · omega
        · refine Ev.iconst dX8_firstFit_53 (Eq.refl 54) ?_
          refine Ev.is2 dX8_firstFit_54 (Eq.refl 55) (by decide) rfl ?_
          exact IN _ 0 rfl (by omega) (fun i hi => by omega)
      · have e : k = P := by omega
        subst e
        rw [if_neg hk2]
        refine Ev.iload_n dX8_firstFit_47 (Eq.refl 48) rfl ?_
        refine Ev.bipush dX8_firstFit_48 (Eq.refl 50) (by decide) ?_
        refine Ev.icmp_eq (tgt := 130) dX8_firstFit_50 (Eq.refl 53) (by decide) ⟨by omega, by omega⟩ ⟨by omega, by omega⟩ (fun c50 => ?_) (fun c50 => ?_)
        · exact Ev.vret dX8_firstFit_130 rfl (⟨rfl, hC, hF⟩)
        · omega
  have L1 : ∀ (m k : Nat) (g : Hp), 14 - k = m → k ≤ 14 → Ck h g → (∀ j, g.1 12 j = h.1 12 j) → g.1 0 21 = 0 → (∀ j, j < k → g.1 13 j = -4 ∧ g.1 14 j = Zr v) → Ev mX8_firstFit 1 7 [some (.ref 0), some (iv (k : Int)), none] [] g (PV (fun h' => Ck h h' ∧ FFd h' v P o P)) := by
    intro m
    induction m using Nat.strongRecOn with
    | ind m ih =>
      intro k g hm hk hC h12 h21 hj
      have Bg := B.ck hC
      have hR := Bg.1
      have rR : ∀ x, (hI g 13 k x).1 2 2 = vR v := fun x => by rw [hI_ni (by omega)]; exact Bg.R
      by_cases l : k < 14
      · refine Ev.iload_n dX8_firstFit_7 (Eq.refl 8) rfl ?_
        refine Ev.bipush dX8_firstFit_8 (Eq.refl 10) (by decide) ?_
        refine Ev.icmp_ge (tgt := 42) dX8_firstFit_10 (Eq.refl 13) (by decide) ⟨by omega, by omega⟩ ⟨by omega, by omega⟩ (fun c10 => ?_) (fun c10 => ?_)
        · omega
        · refine Ev.aload_n dX8_firstFit_13 (Eq.refl 14) rfl ?_
          refine Ev.getR dX8_firstFit_14 (Eq.refl 17) fg_X8_49 rfl rfl (rX8_19 hR) ?_
          refine Ev.iload_n dX8_firstFit_17 (Eq.refl 18) rfl ?_
          refine Ev.bipush dX8_firstFit_18 (Eq.refl 20) (by decide) ?_
          refine Ev.iastore dX8_firstFit_20 (Eq.refl 21) rfl rfl (by omega) (by decide) (by first | with_reducible exact Int.toNat_natCast _ | exact Eq.refl _) ?_
          refine Ev.aload_n dX8_firstFit_21 (Eq.refl 22) rfl ?_
          refine Ev.getR dX8_firstFit_22 (Eq.refl 25) fg_X8_52 rfl rfl (rX8_20 hR) ?_
          refine Ev.iload_n dX8_firstFit_25 (Eq.refl 26) rfl ?_
          refine Ev.bipush dX8_firstFit_26 (Eq.refl 28) (by decide) ?_
          refine Ev.aload_n dX8_firstFit_28 (Eq.refl 29) rfl ?_
          refine Ev.getR dX8_firstFit_29 (Eq.refl 32) fg_X8_13 rfl rfl (rX8_3 hR) ?_
          refine Ev.iconst dX8_firstFit_32 (Eq.refl 33) ?_
          refine Ev.iaload dX8_firstFit_33 (Eq.refl 34) rfl rfl (by omega) (by decide) (show (2 : Int).toNat = 2 from rfl) ?_
          rw [rR]
          refine Ev.imul dX8_firstFit_34 (Eq.refl 35) ?_
          refine Ev.iastore dX8_firstFit_35 (Eq.refl 36) rfl rfl (by omega) (by decide) (by first | with_reducible exact Int.toNat_natCast _ | exact Eq.refl _) ?_
          refine Ev.ii1 dX8_firstFit_36 (Eq.refl 39) (by decide) rfl ?_
          refine Ev.goto' (pc' := 7) dX8_firstFit_39 (by decide) ?_
          exact ih _ (by omega) (k + 1) _ rfl (by omega) ((hC.w (by omega)).w (by omega)) (fun j => by rw [hI_ni (by omega), hI_ni (by omega)]; exact h12 j) (by rw [hI_ni (by omega), hI_ni (by omega)]; exact h21) (fun j hj2 => by rw [hI_ni (by omega), hI_rd, hI_rd]; exact (if e : j = k then by rw [if_pos ⟨rfl, e⟩, if_pos ⟨rfl, e⟩]; exact ⟨rfl, rfl⟩ else by rw [if_neg (fun z => e z.2), if_neg (fun z => e z.2), hI_ni (by omega)]; exact hj j (by omega)))
      · have e : k = 14 := by omega
        subst e
        have pcg : PCS g v := fun s hs => by rw [h12]; exact pc s hs
        have cL := m_longest (k := 0) Bg ha pcg io (by omega) (fun s hs ⟨i, i1, _⟩ => by omega) (fun s hs _ => (hj s (by omega)).1)
        refine Ev.iload_n dX8_firstFit_7 (Eq.refl 8) rfl ?_
        refine Ev.bipush dX8_firstFit_8 (Eq.refl 10) (by decide) ?_
        refine Ev.icmp_ge (tgt := 42) dX8_firstFit_10 (Eq.refl 13) (by decide) ⟨by omega, by omega⟩ ⟨by omega, by omega⟩ (fun c10 => ?_) (fun c10 => ?_)
        · refine Ev.aload_n dX8_firstFit_42 (Eq.refl 43) rfl ?_
          refine Ev.cv0E dX8_firstFit_43 (Eq.refl 46) cw_X8_227 (Nat.le_of_ble_eq_true rfl) (by decide) rfl rfl rfl (Nat.le_of_ble_eq_true rfl) (cL) ?_
          refine Ev.is1 dX8_firstFit_46 (Eq.refl 47) (by decide) rfl ?_
          exact MAIN _ 0 _ _ rfl (by omega) hC h12 ⟨fun r hr => (hj r hr).2, h21, fun i hi => by omega, fun s hs _ => (hj s (by omega)).1⟩
        · omega
  have hR := B.1
  refine Ev.aload_n dX8_firstFit_0 (Eq.refl 1) rfl ?_
  refine Ev.iconst dX8_firstFit_1 (Eq.refl 2) ?_
  refine Ev.putI dX8_firstFit_2 (Eq.refl 5) fp_X8_224 rfl rfl (Or.inl rfl) ?_
  refine Ev.iconst dX8_firstFit_5 (Eq.refl 6) ?_
  refine Ev.is1 dX8_firstFit_6 (Eq.refl 7) (by decide) rfl ?_
  exact L1 _ 0 _ rfl (by omega) (Ck.rf.w (by omega)) (fun j => hI_ni (by omega)) hI_eq (fun j hj => by omega)
end CK
