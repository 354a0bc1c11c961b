/-! Net.hungJoints, allHung, isNeeded -/
def HInv (v : Nv) (G : Nat → Prop) (x : Int) : Prop := 0 ≤ x ∧ (∀ j, tb x j → j < vJ v) ∧ (∀ j, j < vJ v → vF v j = false → tb x j) ∧ (∀ j, tb x j → hg v G j)
def isHg (v : Nv) (G : Nat → Prop) (x : Int) : Prop := 0 ≤ x ∧ x < 1024 ∧ ∀ j, tb x j ↔ j < vJ v ∧ hg v G j
def bcnt (x : Int) (k : Nat) : Nat := cnt (fun j => x.toNat.testBit j) k
theorem bcnt_le (x : Int) (k : Nat) : bcnt x k ≤ k := cnt_le _ k
theorem HInv.lt {v : Nv} {G : Nat → Prop} {x : Int} (hv : VOk v) (h : HInv v G x) : x < 1024 := by
  have := tb_sub (k := 10) h.1 (fun j q => by have := h.2.1 j q; have := hv.1; omega)
  omega
theorem HInv.done {v : Nv} {G : Nat → Prop} {x : Int} (hv : VOk v) (h : HInv v G x) (hc : ∀ s, s < vS v → G s → (tb x (vA v s) ↔ tb x (vB v s))) : isHg v G x := by
  refine ⟨h.1, h.lt hv, fun j => ⟨fun q => ⟨h.2.1 j q, h.2.2.2 j q⟩, fun q => ?_⟩⟩
  exact q.2 (fun j => tb x j) ⟨h.2.2.1, hc⟩
theorem HInv.full {v : Nv} {G : Nat → Prop} {x : Int} (hv : VOk v) (h : HInv v G x) (hc : vJ v ≤ bcnt x (vJ v)) : isHg v G x := by
  have hall := cnt_all (vJ v) (Nat.le_antisymm (cnt_le _ _) hc)
  refine h.done hv (fun s hs _ => ?_)
  have := hv.2.2.2.1 s hs
  exact ⟨fun _ => hall _ this.2.1, fun _ => hall _ this.1⟩
theorem HInv.add {v : Nv} {G : Nat → Prop} {x : Int} {s : Nat} (hv : VOk v) (h : HInv v G x) (hs : s < vS v) (hG : G s) (hq : tb x (vA v s) ∨ tb x (vB v s)) : HInv v G ((x.toNat ||| ((((1 * (2 : Int) ^ vA v s).toNat ||| (1 * (2 : Int) ^ vB v s).toNat : Nat) : Int)).toNat : Nat) : Int) := by
  have hb := hv.2.2.2.1 s hs
  refine ⟨Int.natCast_nonneg _, fun j q => ?_, fun j h1 h2 => ?_, fun j q => ?_⟩
  · rcases tb_or.mp q with q | q
    · exact h.2.1 j q
    · rcases tb_2.mp q with rfl | rfl
      · exact hb.1
      · exact hb.2.1
  · exact tb_or.mpr (Or.inl (h.2.2.1 j h1 h2))
  · rcases tb_or.mp q with q | q
    · exact h.2.2.2 j q
    · intro Y hY
      have e := hY.2 s hs hG
      have hor : Y (vA v s) ∨ Y (vB v s) := by
        rcases hq with z | z
        · exact Or.inl (h.2.2.2 _ z Y hY)
        · exact Or.inr (h.2.2.2 _ z Y hY)
      rcases tb_2.mp q with rfl | rfl
      · rcases hor with z | z
        · exact z
        · exact e.mpr z
      · rcases hor with z | z
        · exact e.mp z
        · exact z
theorem bcnt_lt {x y : Int} {k : Nat} (hx : 0 ≤ x) (hy : 0 ≤ y) (hb : ∀ j, tb y j → j < k) (hs : ∀ j, tb x j → tb y j) (hne : ¬ y = x) : bcnt x k < bcnt y k := by
  refine cnt_lt k (fun j _ q => hs j q) ?_
  obtain ⟨j, hj⟩ := tb_ne hy hx hne
  have h1 : tb y j := Classical.byContradiction fun z => hj ⟨fun q => absurd q z, fun q => absurd (hs j q) z⟩
  have h2 : ¬ tb x j := fun z => hj ⟨fun _ => z, fun _ => h1⟩
  refine ⟨j, hb j h1, ?_, h1⟩
  cases e : x.toNat.testBit j
  · rfl
  · exact absurd e h2
/-- within a pass: x out of x0, k strands looked at -/
def PInv (v : Nv) (G : Nat → Prop) (x0 x : Int) (k : Nat) : Prop := (∀ j, tb x0 j → tb x j) ∧ (x = x0 → ∀ s, s < k → G s → (tb x (vA v s) ↔ tb x (vB v s)))
theorem PInv.same {v : Nv} {G : Nat → Prop} {x0 x : Int} {k : Nat} (h : PInv v G x0 x k) (hq : G k → (tb x (vA v k) ↔ tb x (vB v k))) : PInv v G x0 x (k + 1) := by
  refine ⟨h.1, fun e s hs hG => ?_⟩
  by_cases z : s = k
  · rw [z]; exact hq (z ▸ hG)
  · exact h.2 e s (by omega) hG
theorem PInv.add {v : Nv} {G : Nat → Prop} {x0 x : Int} {k : Nat} (hx : 0 ≤ x) (hx0 : 0 ≤ x0) (h : PInv v G x0 x k) : PInv v G x0 ((x.toNat ||| ((((1 * (2 : Int) ^ vA v k).toNat ||| (1 * (2 : Int) ^ vB v k).toNat : Nat) : Int)).toNat : Nat) : Int) (k + 1) := by
  refine ⟨fun j q => tb_or.mpr (Or.inl (h.1 j q)), fun e s hs hG => ?_⟩
  have e2 : x = x0 := tb_ext hx hx0 (fun j => ⟨fun q => by rw [← e]; exact tb_or.mpr (Or.inl q), h.1 j⟩)
  by_cases z : s = k
  · rw [z]
    exact ⟨fun _ => tb_or.mpr (Or.inr (tb_2.mpr (Or.inr rfl))), fun _ => tb_or.mpr (Or.inr (tb_2.mpr (Or.inl rfl)))⟩
  · rw [e, ← e2]
    exact h.2 e2 s (by omega) hG
theorem hg_congr {v : Nv} {G G' : Nat → Prop} (h : ∀ s, s < vS v → (G s ↔ G' s)) (j : Nat) : hg v G j ↔ hg v G' j := by
  constructor
  · intro q Y hY
    exact q Y ⟨hY.1, fun s hs hG => hY.2 s hs ((h s hs).mp hG)⟩
  · intro q Y hY
    exact q Y ⟨hY.1, fun s hs hG => hY.2 s hs ((h s hs).mpr hG)⟩
theorem bwoR {x y : Int} (h : x ≤ 2147483647) : I32 (bwo x y) := by
  refine ⟨Int.le_trans (by decide) (Int.natCast_nonneg _), ?_⟩
  have : x.toNat ^^^ (x.toNat &&& y.toNat) ≤ x.toNat := by
    apply Nat.le_of_testBit
    intro i
    rw [Nat.testBit_xor, Nat.testBit_and]
    cases x.toNat.testBit i <;> cases y.toNat.testBit i <;> simp
  unfold bwo
  omega
theorem bwo0 {h : Hp} {n : Nat} {x : Int} {G : Nat → Prop} (ok : NOk h n) (hx : ∀ j, tb x j ↔ j < vJ (cV h n) ∧ hg (cV h n) G j) (hG : ∀ s, s < vS (cV h n) → (G s ↔ hgV (cV h n) s) := by exact fun s _ => cV_H ok) : bwo (h.1 n 1) x = 0 ↔ aH (cV h n) (hgV (cV h n)) := by
  constructor
  · intro e j hj hf
    have h1 := (cV_F ok).mpr hf
    by_cases z : tb x j
    · exact (hg_congr hG j).mp ((hx j).mp z).2
    · have := tb_wo.mpr ⟨h1, z⟩
      rw [e] at this
      simp [tb] at this
  · intro q
    refine tb_ext (Int.natCast_nonneg _) (Int.le_refl 0) (fun j => ⟨fun z => ?_, fun z => by simp [tb] at z⟩)
    obtain ⟨z1, z2⟩ := tb_wo.mp z
    have hf := (cV_F ok).mp z1
    have hj : j < vJ (cV h n) := by
      have := (decide_eq_true_iff.mp (show decide ((j : Int) < h.1 n 0 ∧ tb (h.1 n 1) j) = true from hf)).1
      have := cV_J ok
      omega
    exact absurd ((hx j).mpr ⟨hj, (hg_congr hG j).mpr (q j hj hf)⟩) z2
theorem c_hungJoints {h : Hp} {n : Nat} {g : Int} (hR : ROk h.2.2) (hn : isNet n) (ok : NOk h n) (hg0 : 0 ≤ g ∧ g ≤ 2147483647) : Ev mX2_hungJoints 0 0 (entL [.ref n, iv g] 7) [] h (PI (fun x h' => h' = h ∧ isHg (cV h n) (fun s => tb g s) x)) := by
  show Ev mX2_hungJoints 0 0 [some (.ref n), some (iv g), none, none, none, none, none] [] h _
  have hv : VOk (cV h n) := ok.2.2.2.2.2
  have hJ := ok.1
  have hF := ok.2.1.1
  have hF2 := ok.f1
  have hS := ok.2.2.1
  have eJ := cV_J ok
  have eS := cV_S ok
  generalize hve : cV h n = v at hv eJ eS
  have OUT : ∀ (m p : Nat) (x : Int) (a b c : Option Value), vJ v - p = m → p ≤ vJ v → HInv v (fun s => tb g s) x → p ≤ bcnt x (vJ v) → Ev mX2_hungJoints 0 18 [some (.ref n), some (iv g), some (iv x), some (iv (p : Int)), a, b, c] [] h (PI (fun x h' => h' = h ∧ isHg v (fun s => tb g s) x)) := by
    intro m
    induction m using Nat.strongRecOn with
    | ind m ih =>
      intro p x a b c hm hp hx hc
      have hx0 := hx.1
      have hx1 := hx.lt hv
      have IN : ∀ (m2 k : Nat) (y : Int) (c : Option Value), vS v - k = m2 → k ≤ vS v → HInv v (fun s => tb g s) y → PInv v (fun s => tb g s) x y k → Ev mX2_hungJoints 0 32 [some (.ref n), some (iv g), some (iv y), some (iv (p : Int)), some (iv x), some (iv (k : Int)), c] [] h (PI (fun x h' => h' = h ∧ isHg v (fun s => tb g s) x)) := by
        intro m2
        induction m2 using Nat.strongRecOn with
        | ind m2 ih2 =>
          intro k y c hm2 hk hy hpi
          have hy0 := hy.1
          have hy1 := hy.lt hv
          refine Ev.iload dX2_hungJoints_32 (Eq.refl 34) rfl ?_
          refine Ev.aload_n dX2_hungJoints_34 (Eq.refl 35) rfl ?_
          refine Ev.getI dX2_hungJoints_35 (Eq.refl 38) fg_X2_37 (lyN0 (by assumption)) rfl ?_
          refine Ev.icmp_ge (tgt := 90) dX2_hungJoints_38 (Eq.refl 41) (by decide) ⟨by omega, by omega⟩ ⟨by omega, by omega⟩ (fun c38 => ?_) (fun c38 => ?_)
          · have e : k = vS v := by omega
            refine Ev.iload_n dX2_hungJoints_90 (Eq.refl 91) rfl ?_
            refine Ev.iload dX2_hungJoints_91 (Eq.refl 93) rfl ?_
            refine Ev.icmp_ne (tgt := 99) dX2_hungJoints_93 (Eq.refl 96) (by decide) ⟨by omega, by omega⟩ ⟨by omega, by omega⟩ (fun c93 => ?_) (fun c93 => ?_)
            · have hlt := bcnt_lt hx0 hy0 hy.2.1 hpi.1 c93
              have hpJ := bcnt_le y (vJ v)
              refine Ev.ii3 dX2_hungJoints_99 (Eq.refl 102) (by decide) rfl ?_
              refine Ev.goto' (pc' := 18) dX2_hungJoints_102 (by decide) ?_
              exact ih _ (by omega) (p + 1) _ _ _ _ rfl (by omega) hy (by omega)
            · have hdone := hy.done hv (fun s hs hG => hpi.2 c93 s (by omega) hG)
              refine Ev.goto' (pc' := 105) dX2_hungJoints_96 (by decide) ?_
              refine Ev.iload_n dX2_hungJoints_105 (Eq.refl 106) rfl ?_
              exact Ev.iret dX2_hungJoints_106 rfl (⟨_, rfl, rfl, hdone⟩)
          · have hk2 : k < vS v := by omega
            have hs2 : (k : Int) < h.1 n 2 := by omega
            have hA := cV_A ok hs2
            have hB := cV_B ok hs2
            rw [hve] at hA hB
            have hvs := hv.2.2.2.1 k hk2
            refine Ev.iconst dX2_hungJoints_41 (Eq.refl 42) ?_
            refine Ev.aload_n dX2_hungJoints_42 (Eq.refl 43) rfl ?_
            refine Ev.getR dX2_hungJoints_43 (Eq.refl 46) fg_X2_18 (lyN0 (by assumption)) rfl (rN8 hR (by assumption)) ?_
            refine Ev.iload dX2_hungJoints_46 (Eq.refl 48) rfl ?_
            refine Ev.iaload dX2_hungJoints_48 (Eq.refl 49) (lyN3 (by assumption)) rfl (by omega) (by decide) (by first | with_reducible exact Int.toNat_natCast _ | exact Eq.refl _) ?_
            rw [hA]
            refine Ev.ishl dX2_hungJoints_49 (Eq.refl 50) (b_shl (by omega) (by omega) (by omega) (shl1 (by omega))) ?_
            refine Ev.iconst dX2_hungJoints_50 (Eq.refl 51) ?_
            refine Ev.aload_n dX2_hungJoints_51 (Eq.refl 52) rfl ?_
            refine Ev.getR dX2_hungJoints_52 (Eq.refl 55) fg_X2_21 (lyN0 (by assumption)) rfl (rN9 hR (by assumption)) ?_
            refine Ev.iload dX2_hungJoints_55 (Eq.refl 57) rfl ?_
            refine Ev.iaload dX2_hungJoints_57 (Eq.refl 58) (lyN4 (by assumption)) rfl (by omega) (by decide) (by first | with_reducible exact Int.toNat_natCast _ | exact Eq.refl _) ?_
            rw [hB]
            refine Ev.ishl dX2_hungJoints_58 (Eq.refl 59) (b_shl (by omega) (by omega) (by omega) (shl1 (by omega))) ?_
            simp only [Int.toNat_natCast]
            refine Ev.ior dX2_hungJoints_59 (Eq.refl 60) (b_or (by first | exact Int.natCast_nonneg _ | exact shl0 | omega) (by first | exact Int.natCast_nonneg _ | exact shl0 | omega)) ?_
            refine Ev.is6 dX2_hungJoints_60 (Eq.refl 62) (by decide) rfl ?_
            refine Ev.iload_n dX2_hungJoints_62 (Eq.refl 63) rfl ?_
            refine Ev.iload dX2_hungJoints_63 (Eq.refl 65) rfl ?_
            refine Ev.ishr dX2_hungJoints_65 (Eq.refl 66) (b_shr (by omega) (by omega) (by omega) (by omega)) ?_
            refine Ev.iconst dX2_hungJoints_66 (Eq.refl 67) ?_
            refine Ev.iand dX2_hungJoints_67 (Eq.refl 68) (b_and (by first | exact Int.natCast_nonneg _ | exact shl0 | omega) (by first | exact Int.natCast_nonneg _ | exact shl0 | omega)) ?_
            rw [bitE, Int.toNat_natCast]
            refine Ev.iconst dX2_hungJoints_68 (Eq.refl 69) ?_
            have hbb := bi01 (tb g k)
            refine Ev.icmp_ne (tgt := 84) dX2_hungJoints_69 (Eq.refl 72) (by decide) ⟨by omega, by omega⟩ ⟨by omega, by omega⟩ (fun c69 => ?_) (fun c69 => ?_)
            · have hpi := hpi.same (fun hG => absurd (bi_t hG) c69)
              refine Ev.ii5 dX2_hungJoints_84 (Eq.refl 87) (by decide) rfl ?_
              refine Ev.goto' (pc' := 32) dX2_hungJoints_87 (by decide) ?_
              exact ih2 _ (by omega) (k + 1) _ _ rfl (by omega) hy hpi
            · have hG : tb g k := Classical.byContradiction fun z => by rw [bi_f z] at c69; exact absurd c69 (by decide)
              refine Ev.iload_n dX2_hungJoints_72 (Eq.refl 73) rfl ?_
              refine Ev.iload dX2_hungJoints_73 (Eq.refl 75) rfl ?_
              refine Ev.iand dX2_hungJoints_75 (Eq.refl 76) (b_and (by first | exact Int.natCast_nonneg _ | exact shl0 | omega) (by first | exact Int.natCast_nonneg _ | exact shl0 | omega)) ?_
              have h75 := (tb_and0 (x := y) (y := (((1 * (2 : Int) ^ vA v k).toNat ||| (1 * (2 : Int) ^ vB v k).toNat : Nat) : Int)))
              refine Ev.if_eq (tgt := 84) dX2_hungJoints_76 (Eq.refl 79) (by decide) ⟨by have := Int.natCast_nonneg (y.toNat &&& ((((1 * (2 : Int) ^ vA v k).toNat ||| (1 * (2 : Int) ^ vB v k).toNat : Nat) : Int)).toNat); exact Int.le_trans (by omega) this, by have : y.toNat &&& ((((1 * (2 : Int) ^ vA v k).toNat ||| (1 * (2 : Int) ^ vB v k).toNat : Nat) : Int)).toNat ≤ y.toNat := Nat.and_le_left; omega⟩ (fun c76 => ?_) (fun c76 => ?_)
              · have hpi := hpi.same (fun _ => by have := h75.mp c76; exact ⟨fun q => absurd ⟨q, tb_2.mpr (Or.inl rfl)⟩ (this _), fun q => absurd ⟨q, tb_2.mpr (Or.inr rfl)⟩ (this _)⟩)
                refine Ev.ii5 dX2_hungJoints_84 (Eq.refl 87) (by decide) rfl ?_
                refine Ev.goto' (pc' := 32) dX2_hungJoints_87 (by decide) ?_
                exact ih2 _ (by omega) (k + 1) _ _ rfl (by omega) hy hpi
              · have hor : tb y (vA v k) ∨ tb y (vB v k) := Classical.byContradiction fun z => c76 (h75.mpr (fun j q => by rcases tb_2.mp q.2 with rfl | rfl; exact z (Or.inl q.1); exact z (Or.inr q.1)))
                refine Ev.iload_n dX2_hungJoints_79 (Eq.refl 80) rfl ?_
                refine Ev.iload dX2_hungJoints_80 (Eq.refl 82) rfl ?_
                refine Ev.ior dX2_hungJoints_82 (Eq.refl 83) (b_or (by first | exact Int.natCast_nonneg _ | exact shl0 | omega) (by first | exact Int.natCast_nonneg _ | exact shl0 | omega)) ?_
                refine Ev.is2 dX2_hungJoints_83 (Eq.refl 84) (by decide) rfl ?_
                have hy := hy.add hv hk2 hG hor
                have hpi := hpi.add hy0 hx0
                refine Ev.ii5 dX2_hungJoints_84 (Eq.refl 87) (by decide) rfl ?_
                refine Ev.goto' (pc' := 32) dX2_hungJoints_87 (by decide) ?_
                exact ih2 _ (by omega) (k + 1) _ _ rfl (by omega) hy hpi
      refine Ev.iload_n dX2_hungJoints_18 (Eq.refl 19) rfl ?_
      refine Ev.aload_n dX2_hungJoints_19 (Eq.refl 20) rfl ?_
      refine Ev.getI dX2_hungJoints_20 (Eq.refl 23) fg_X2_30 (lyN0 (by assumption)) rfl ?_
      refine Ev.icmp_ge (tgt := 105) dX2_hungJoints_23 (Eq.refl 26) (by decide) ⟨by omega, by omega⟩ ⟨by omega, by omega⟩ (fun c23 => ?_) (fun c23 => ?_)
      · have hdone := hx.full hv (by omega)
        refine Ev.iload_n dX2_hungJoints_105 (Eq.refl 106) rfl ?_
        exact Ev.iret dX2_hungJoints_106 rfl (⟨_, rfl, rfl, hdone⟩)
      · refine Ev.iload_n dX2_hungJoints_26 (Eq.refl 27) rfl ?_
        refine Ev.is4 dX2_hungJoints_27 (Eq.refl 29) (by decide) rfl ?_
        refine Ev.iconst dX2_hungJoints_29 (Eq.refl 30) ?_
        refine Ev.is5 dX2_hungJoints_30 (Eq.refl 32) (by decide) rfl ?_
        exact IN _ 0 x _ rfl (by omega) hx ⟨fun _ q => q, fun _ s hs => absurd hs (by omega)⟩
  refine Ev.iconst dX2_hungJoints_0 (Eq.refl 1) ?_
  refine Ev.aload_n dX2_hungJoints_1 (Eq.refl 2) rfl ?_
  refine Ev.getI dX2_hungJoints_2 (Eq.refl 5) fg_X2_30 (lyN0 (by assumption)) rfl ?_
  refine Ev.ishl dX2_hungJoints_5 (Eq.refl 6) (b_shl (by omega) (by omega) (by omega) (shl1 (by omega))) ?_
  refine Ev.iconst dX2_hungJoints_6 (Eq.refl 7) ?_
  refine Ev.isub dX2_hungJoints_7 (Eq.refl 8) ?_
  refine Ev.aload_n dX2_hungJoints_8 (Eq.refl 9) rfl ?_
  refine Ev.getI dX2_hungJoints_9 (Eq.refl 12) fg_X2_34 (lyN0 (by assumption)) rfl ?_
  refine Ev.iconst dX2_hungJoints_12 (Eq.refl 13) ?_
  refine Ev.ixor dX2_hungJoints_13 (Eq.refl 14) (b_not (by omega)) ?_
  refine Ev.iand dX2_hungJoints_14 (Eq.refl 15) (b_andn (by have := shl0 (k := (h.1 n 0).toNat); have := p2le (Nat.zero_le (h.1 n 0).toNat); omega) (by omega)) ?_
  refine Ev.is2 dX2_hungJoints_15 (Eq.refl 16) (by decide) rfl ?_
  refine Ev.iconst dX2_hungJoints_16 (Eq.refl 17) ?_
  refine Ev.is3 dX2_hungJoints_17 (Eq.refl 18) (by decide) rfl ?_
  refine OUT _ 0 _ _ _ _ rfl (by omega) ?_ (Nat.zero_le _)
  rw [← hve]
  refine ⟨Int.natCast_nonneg _, fun j q => ?_, fun j h1 h2 => ?_, fun j q => ?_⟩
  · exact tb_pm1.mp (tb_wo.mp q).1
  · exact tb_wo.mpr ⟨tb_pm1.mpr h1, fun z => by rw [(cV_F ok).mp z] at h2; cases h2⟩
  · intro Y hY
    obtain ⟨q1, q2⟩ := tb_wo.mp q
    exact hY.1 j (tb_pm1.mp q1) (by cases e : vF (cV h n) j; rfl; exact absurd ((cV_F ok).mpr e) q2)
theorem c_allHung {h : Hp} {n : Nat} (hR : ROk h.2.2) (hn : isNet n) (ok : NOk h n) : Ev mX2_allHung 1 0 (entL [.ref n] 1) [] h (PE (bi (aH (cV h n) (hgV (cV h n)))) h) := by
  show Ev mX2_allHung 1 0 [some (.ref n)] [] h _
  have hF := ok.2.1.1
  have hF2 := ok.f1
  have hg3 : 0 ≤ h.1 n 3 ∧ h.1 n 3 ≤ 2147483647 := ⟨ok.2.2.2.1.1, by have := ok.f3; omega⟩
  refine Ev.aload_n dX2_allHung_0 (Eq.refl 1) rfl ?_
  refine Ev.getI dX2_allHung_1 (Eq.refl 4) fg_X2_34 (lyN0 (by assumption)) rfl ?_
  refine Ev.aload_n dX2_allHung_4 (Eq.refl 5) rfl ?_
  refine Ev.aload_n dX2_allHung_5 (Eq.refl 6) rfl ?_
  refine Ev.getI dX2_allHung_6 (Eq.refl 9) fg_X2_40 (lyN0 (by assumption)) rfl ?_
  refine Ev.cv1I dX2_allHung_9 (Eq.refl 12) cw_X2_78 (Nat.le_of_ble_eq_true rfl) (by decide) (lyN0 (by assumption)) rfl rfl (Nat.le_of_ble_eq_true rfl) (c_hungJoints hR (by assumption) (by assumption) (by assumption)) (fun x9 g9 hp9 => ?_)
  obtain ⟨rfl, hx0, hx1, hx2⟩ := hp9
  refine Ev.iconst dX2_allHung_12 (Eq.refl 13) ?_
  refine Ev.ixor dX2_allHung_13 (Eq.refl 14) (b_not (by omega)) ?_
  refine Ev.iand dX2_allHung_14 (Eq.refl 15) (b_andn (by omega) (by omega)) ?_
  have e0 : bwo (g9.1 n 1) x9 = 0 ↔ aH (cV g9 n) (hgV (cV g9 n)) := bwo0 ok hx2
  refine Ev.if_ne (tgt := 22) dX2_allHung_15 (Eq.refl 18) (by decide) (bwoR (by omega)) (fun c15 => ?_) (fun c15 => ?_)
  · refine Ev.iconst dX2_allHung_22 (Eq.refl 23) ?_
    exact Ev.zret dX2_allHung_23 rfl (by first | exact bi01 _ | exact Or.inl rfl | exact Or.inr rfl | omega) (PE.of (by first | exact (bi_t (e0.mp (by assumption))).symm | exact (bi_f (fun z => by have := e0.mpr z; contradiction)).symm))
  · refine Ev.iconst dX2_allHung_18 (Eq.refl 19) ?_
    refine Ev.goto' (pc' := 23) dX2_allHung_19 (by decide) ?_
    exact Ev.zret dX2_allHung_23 rfl (by first | exact bi01 _ | exact Or.inl rfl | exact Or.inr rfl | omega) (PE.of (by first | exact (bi_t (e0.mp (by assumption))).symm | exact (bi_f (fun z => by have := e0.mpr z; contradiction)).symm))
