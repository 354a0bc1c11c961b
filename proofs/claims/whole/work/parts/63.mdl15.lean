/-! The model: laysTable -/
def Lk (h g : Hp) : Prop := g.2.2 = h.2.2 ∧ (∀ i, i ≠ 0 → i ≠ 7 → i ≠ 9 → i ≠ 11 → ∀ j, g.1 i j = h.1 i j) ∧ ∀ k, k ≠ 14 → g.1 0 k = h.1 0 k
section LK
variable {h g f : Hp}
theorem Lk.rf : Lk h h := ⟨rfl, fun _ _ _ _ _ _ => rfl, fun _ _ => rfl⟩
theorem Lk.tr (a : Lk h g) (b : Lk g f) : Lk h f := ⟨b.1.trans a.1, fun i h1 h2 h3 h4 j => (b.2.1 i h1 h2 h3 h4 j).trans (a.2.1 i h1 h2 h3 h4 j), fun k q => (b.2.2 k q).trans (a.2.2 k q)⟩
theorem Lk.wI {i k : Nat} {x : Int} (a : Lk h g) (hi : (i = 0 ∧ k = 14) ∨ i = 7 ∨ i = 9 ∨ i = 11) : Lk h (hI g i k x) := ⟨a.1, fun i' h1 h2 h3 h4 j => by rw [hI_rd, if_neg (by omega)]; exact a.2.1 i' h1 h2 h3 h4 j, fun k' q => by rw [hI_rd, if_neg (by omega)]; exact a.2.2 k' q⟩
theorem Lk.wL {i k : Nat} {x : Int} (a : Lk h g) : Lk h (hL g i k x) := a
theorem Lk.f8 (a : Lk h g) (b : F8 g f) : Lk h f := ⟨b.2.1.trans a.1, by rw [b.1]; exact a.2.1, by rw [b.1]; exact a.2.2⟩
theorem Lk.f7 (a : Lk h g) (b : Fr (fun i => i = 7) g f) : Lk h f := a.tr ⟨b.2.2, fun i _ h2 _ _ j => b.1 i h2 j, fun k _ => b.1 0 (by omega) k⟩
theorem Lk.k (a : Lk h g) : Mk h g := ⟨a.1, a.2.1 1 (by omega) (by omega) (by omega) (by omega), a.2.1 2 (by omega) (by omega) (by omega) (by omega), a.2.1 4 (by omega) (by omega) (by omega) (by omega), a.2.2 2 (by omega), a.2.2 6 (by omega)⟩
theorem Lk.s (a : Lk h g) : g.1 2 = h.1 2 := funext fun j => a.2.1 2 (by omega) (by omega) (by omega) (by omega) j
end LK
theorem lD_z {v : Nv} {j : Nat} (hf : vF v j = true) : ∀ m, m ≤ j → lD v m (rwo v j) = 0
  | 0, _ => rfl
  | m + 1, h => by
    show (if vF v m = true ∧ rwo v j = rwo v m then vLd v m else lD v m (rwo v j)) = 0
    rw [if_neg (fun z => by have := cnt_inj hf z.1 z.2; omega)]
    exact lD_z hf m (by omega)
theorem m_laysTable {h : Hp} (hR : MOk h.2.2) (ok : GOk (h.1 2)) : Ev mX8_laysTable 3 0 (entL [.ref 0] 2) [] h (PV (fun h' => Lk h h' ∧ (∀ j, h'.1 7 j = h.1 7 j) ∧ NFm h' (gV (h.1 2)) ∧ TW h' (vN (gV (h.1 2))) (T0 (gV (h.1 2))))) := by
  show Ev mX8_laysTable 3 0 [some (.ref 0), none] [] h _
  have hv := ok.2.2.2.2
  have hJ := hv.1
  have hS14 := hv.2.1
  have h5 := vN5 hv
  have eJ := gJ ok
  have eSt := gS ok
  have hLd := fun (j : Nat) (hj : j < vJ (gV (h.1 2))) => gL (f := h.1 2) (j := j) (by omega)
  generalize hve : gV (h.1 2) = v at *
  have hLb := hv.2.2.2.2.1
  have cF : ∀ (g : Hp) (i : Nat), Lk h g → i < vJ v → Ev mX8_isFree 0 0 (entL [.ref 0, iv (i : Int)] 2) [] g (PE (bi (vF v i = true)) g) := fun g i z hi => by
    have := m_isFree (h := g) (j := i) (by rw [z.1]; exact hR) (by rw [z.s]; exact ok) (by rw [z.s, hve]; exact hi)
    rw [z.s, hve] at this; exact this
  -- strands
  have L4 : ∀ (g0 : Hp), Lk h g0 → (∀ j, g0.1 7 j = h.1 7 j) → NFm g0 v → ∀ (m k : Nat) (g : Hp), vS v - k = m → k ≤ vS v → F8 g0 g → TW g (vN v) (fun r c => (if c = 7 then lD v (vJ v) r else 0) + sm (fun i => eS v i r c) k) → Ev mX8_laysTable 3 148 [some (.ref 0), some (iv (k : Int))] [] g (PV (fun h' => Lk h h' ∧ (∀ j, h'.1 7 j = h.1 7 j) ∧ NFm h' v ∧ TW h' (vN v) (T0 v))) := by
    intro g0 hK h7 nf m
    induction m using Nat.strongRecOn with
    | ind m ih =>
      intro k g hm hk hF hW
      have hKg := hK.f8 hF
      have hR : MOk g.2.2 := by rw [hKg.1]; exact hR
      have okg : GOk (g.1 2) := by rw [hKg.s]; exact ok
      have evg : gV (g.1 2) = v := by rw [hKg.s]; exact hve
      have g21 : g.1 2 1 = (vS v : Int) := by rw [hKg.s]; exact eSt
      have nfg : NFm g (gV (g.1 2)) := by rw [evg]; unfold NFm; rw [hF.1]; exact nf
      by_cases hk2 : k < vS v
      · have kl : k < vS (gV (g.1 2)) := by rw [evg]; exact hk2
        have cH := m_hangs (k := k) hR okg kl
        have cA := m_ofA (k := k) hR okg kl
        rw [evg] at cH cA
        by_cases hh : vH v k = true
        · have cE1 := m_laysEnd (k := k) (j := vA v k) (o := vB v k) hR okg nfg kl (by rw [evg]; exact Or.inl ⟨rfl, rfl⟩) (by rw [evg]; exact hW)
          rw [evg] at cE1
          have TAIL : ∀ g1, F8 g g1 → TW g1 (vN v) (fun r c => ((if c = 7 then lD v (vJ v) r else 0) + sm (fun i => eS v i r c) k) + if vF v (vA v k) = true ∧ r = rwo v (vA v k) then eE v k (vA v k) (vB v k) c else 0) → Ev mX8_laysTable 3 177 [some (.ref 0), some (iv (k : Int))] [] g1 (PV (fun h' => Lk h h' ∧ (∀ j, h'.1 7 j = h.1 7 j) ∧ NFm h' v ∧ TW h' (vN v) (T0 v))) := by
            intro g1 hF1 hW1
            have hK1 := hKg.f8 hF1
            have hR : MOk g1.2.2 := by rw [hF1.2.1]; exact hR
            have ok1 : GOk (g1.1 2) := by rw [hF1.1]; exact okg
            have ev1 : gV (g1.1 2) = v := by rw [hF1.1]; exact evg
            have nf1 : NFm g1 (gV (g1.1 2)) := by rw [ev1]; unfold NFm; rw [hF1.1, hF.1]; exact nf
            have kl1 : k < vS (gV (g1.1 2)) := by rw [ev1]; exact hk2
            have cB := m_ofB (k := k) hR ok1 kl1
            rw [ev1] at cB
            have cE2 := m_laysEnd (k := k) (j := vB v k) (o := vA v k) hR ok1 nf1 kl1 (by rw [ev1]; exact Or.inr ⟨rfl, rfl⟩) (by rw [ev1]; exact hW1)
            rw [ev1] at cE2
            refine Ev.aload_n dX8_laysTable_177 (Eq.refl 178) rfl ?_
            refine Ev.iload_n dX8_laysTable_178 (Eq.refl 179) rfl ?_
            refine Ev.aload_n dX8_laysTable_179 (Eq.refl 180) rfl ?_
            refine Ev.iload_n dX8_laysTable_180 (Eq.refl 181) rfl ?_
            refine Ev.iconst dX8_laysTable_181 (Eq.refl 182) ?_
            refine Ev.cv2E dX8_laysTable_182 (Eq.refl 185) cw_X8_131 (Nat.le_of_ble_eq_true rfl) (by decide) rfl rfl rfl (Nat.le_of_ble_eq_true rfl) (cB) ?_
            refine Ev.cv2V dX8_laysTable_185 (Eq.refl 188) cw_X8_143 (Nat.le_of_ble_eq_true rfl) (by decide) rfl rfl rfl (Nat.le_of_ble_eq_true rfl) (cE2) (fun g185 hp185 => ?_)
            obtain ⟨hF2, hW2⟩ := hp185
            refine Ev.ii1 dX8_laysTable_188 (Eq.refl 191) (by decide) rfl ?_
            refine Ev.goto' (pc' := 148) dX8_laysTable_191 (by decide) ?_
            exact ih _ (by omega) (k + 1) _ rfl (by omega) ((hF.tr hF1).tr hF2) (fun r c hr hc => by have z1 := hW2 r c hr hc; have z2 : eS v k r c = (if vF v (vA v k) = true ∧ r = rwo v (vA v k) then eE v k (vA v k) (vB v k) c else 0) + (if vF v (vB v k) = true ∧ r = rwo v (vB v k) then eE v k (vB v k) (vA v k) c else 0) := if_pos hh; rw [z1]; simp only [sm]; rw [z2]; omega)
          refine Ev.iload_n dX8_laysTable_148 (Eq.refl 149) rfl ?_
          refine Ev.aload_n dX8_laysTable_149 (Eq.refl 150) rfl ?_
          refine Ev.getR dX8_laysTable_150 (Eq.refl 153) fg_X8_13 rfl rfl (rX8_3 hR) ?_
          refine Ev.iconst dX8_laysTable_153 (Eq.refl 154) ?_
          refine Ev.iaload dX8_laysTable_154 (Eq.refl 155) rfl rfl (by omega) (by decide) (show (1 : Int).toNat = 1 from rfl) ?_
          rw [g21]
          refine Ev.icmp_ge (tgt := 194) dX8_laysTable_155 (Eq.refl 158) (by decide) ⟨by omega, by omega⟩ ⟨by omega, by omega⟩ (fun c155 => ?_) (fun c155 => ?_)
          · omega
          · refine Ev.aload_n dX8_laysTable_158 (Eq.refl 159) rfl ?_
            refine Ev.iload_n dX8_laysTable_159 (Eq.refl 160) rfl ?_
            refine Ev.cv1E dX8_laysTable_160 (Eq.refl 163) cw_X8_137 (Nat.le_of_ble_eq_true rfl) (by decide) rfl rfl rfl (Nat.le_of_ble_eq_true rfl) (cH) ?_
            refine Ev.if_eqB (tgt := 188) dX8_laysTable_163 (Eq.refl 166) (by decide) (fun c163 => ?_) (fun c163 => ?_)
            · exact absurd hh c163
            · refine Ev.aload_n dX8_laysTable_166 (Eq.refl 167) rfl ?_
              refine Ev.iload_n dX8_laysTable_167 (Eq.refl 168) rfl ?_
              refine Ev.aload_n dX8_laysTable_168 (Eq.refl 169) rfl ?_
              refine Ev.iload_n dX8_laysTable_169 (Eq.refl 170) rfl ?_
              refine Ev.iconst dX8_laysTable_170 (Eq.refl 171) ?_
              refine Ev.cv2E dX8_laysTable_171 (Eq.refl 174) cw_X8_131 (Nat.le_of_ble_eq_true rfl) (by decide) rfl rfl rfl (Nat.le_of_ble_eq_true rfl) (cA) ?_
              refine Ev.cv2V dX8_laysTable_174 (Eq.refl 177) cw_X8_143 (Nat.le_of_ble_eq_true rfl) (by decide) rfl rfl rfl (Nat.le_of_ble_eq_true rfl) (cE1) (fun g174 hp174 => ?_)
              obtain ⟨hF1, hW1⟩ := hp174
              exact TAIL _ hF1 hW1
        · refine Ev.iload_n dX8_laysTable_148 (Eq.refl 149) rfl ?_
          refine Ev.aload_n dX8_laysTable_149 (Eq.refl 150) rfl ?_
          refine Ev.getR dX8_laysTable_150 (Eq.refl 153) fg_X8_13 rfl rfl (rX8_3 hR) ?_
          refine Ev.iconst dX8_laysTable_153 (Eq.refl 154) ?_
          refine Ev.iaload dX8_laysTable_154 (Eq.refl 155) rfl rfl (by omega) (by decide) (show (1 : Int).toNat = 1 from rfl) ?_
          rw [g21]
          refine Ev.icmp_ge (tgt := 194) dX8_laysTable_155 (Eq.refl 158) (by decide) ⟨by omega, by omega⟩ ⟨by omega, by omega⟩ (fun c155 => ?_) (fun c155 => ?_)
          · omega
          · refine Ev.aload_n dX8_laysTable_158 (Eq.refl 159) rfl ?_
            refine Ev.iload_n dX8_laysTable_159 (Eq.refl 160) rfl ?_
            refine Ev.cv1E dX8_laysTable_160 (Eq.refl 163) cw_X8_137 (Nat.le_of_ble_eq_true rfl) (by decide) rfl rfl rfl (Nat.le_of_ble_eq_true rfl) (cH) ?_
            refine Ev.if_eqB (tgt := 188) dX8_laysTable_163 (Eq.refl 166) (by decide) (fun c163 => ?_) (fun c163 => ?_)
            · refine Ev.ii1 dX8_laysTable_188 (Eq.refl 191) (by decide) rfl ?_
              refine Ev.goto' (pc' := 148) dX8_laysTable_191 (by decide) ?_
              exact ih _ (by omega) (k + 1) _ rfl (by omega) hF (fun r c hr hc => by have z1 := hW r c hr hc; have z2 : eS v k r c = 0 := if_neg hh; rw [z1]; simp only [sm]; rw [z2]; omega)
            · exact absurd c163 hh
      · have e : k = vS v := by omega
        subst e
        refine Ev.iload_n dX8_laysTable_148 (Eq.refl 149) rfl ?_
        refine Ev.aload_n dX8_laysTable_149 (Eq.refl 150) rfl ?_
        refine Ev.getR dX8_laysTable_150 (Eq.refl 153) fg_X8_13 rfl rfl (rX8_3 hR) ?_
        refine Ev.iconst dX8_laysTable_153 (Eq.refl 154) ?_
        refine Ev.iaload dX8_laysTable_154 (Eq.refl 155) rfl rfl (by omega) (by decide) (show (1 : Int).toNat = 1 from rfl) ?_
        rw [g21]
        refine Ev.icmp_ge (tgt := 194) dX8_laysTable_155 (Eq.refl 158) (by decide) ⟨by omega, by omega⟩ ⟨by omega, by omega⟩ (fun c155 => ?_) (fun c155 => ?_)
        · exact Ev.vret dX8_laysTable_194 rfl (⟨rfl, hKg, fun j => by rw [hF.1]; exact h7 j, by unfold NFm; rw [hF.1]; exact nf, hW⟩)
        · omega
  -- loads
  have L3 : ∀ (g0 : Hp), Lk h g0 → (∀ j, g0.1 7 j = h.1 7 j) → NFm g0 v → ∀ (m k : Nat) (g : Hp), vJ v - k = m → k ≤ vJ v → F8 g0 g → TW g (vN v) (fun r c => if c = 7 then lD v k r else 0) → Ev mX8_laysTable 3 91 [some (.ref 0), some (iv (k : Int))] [] g (PV (fun h' => Lk h h' ∧ (∀ j, h'.1 7 j = h.1 7 j) ∧ NFm h' v ∧ TW h' (vN v) (T0 v))) := by
    intro g0 hK h7 nf m
    induction m using Nat.strongRecOn with
    | ind m ih =>
      intro k g hm hk hF hW
      have hKg := hK.f8 hF
      have hR : MOk g.2.2 := by rw [hKg.1]; exact hR
      have g20 : g.1 2 0 = (vJ v : Int) := by rw [hKg.s]; exact eJ
      by_cases hk2 : k < vJ v
      · have cFk := cF g k hKg hk2
        have eL : g.1 2 (44 + k) = vLd v k := by rw [hKg.s]; exact hLd k hk2
        have hlb := hLb k hk2
        by_cases hf : vF v k = true
        · have er : g.1 9 k = (rwo v k : Int) := by rw [hF.1]; exact nf.2 k hk2 hf
          have rk := rwo_lt hk2 hf
          have q1 : ((8 : Int) * (rwo v k : Int) + 5 + 2).toNat = 8 * rwo v k + 7 := by omega
          have q2 : ((44 : Int) + (k : Int)).toNat = 44 + k := by omega
          have e0 : g.2.1 8 (8 * rwo v k + 7) = 0 := (hW (rwo v k) 7 rk (by omega)).trans (lD_z hf k (Nat.le_refl k))
          refine Ev.iload_n dX8_laysTable_91 (Eq.refl 92) rfl ?_
          refine Ev.aload_n dX8_laysTable_92 (Eq.refl 93) rfl ?_
          refine Ev.getR dX8_laysTable_93 (Eq.refl 96) fg_X8_13 rfl rfl (rX8_3 hR) ?_
          refine Ev.iconst dX8_laysTable_96 (Eq.refl 97) ?_
          refine Ev.iaload dX8_laysTable_97 (Eq.refl 98) rfl rfl (by omega) (by decide) (show (0 : Int).toNat = 0 from rfl) ?_
          rw [g20]
          refine Ev.icmp_ge (tgt := 146) dX8_laysTable_98 (Eq.refl 101) (by decide) ⟨by omega, by omega⟩ ⟨by omega, by omega⟩ (fun c98 => ?_) (fun c98 => ?_)
          · omega
          · refine Ev.aload_n dX8_laysTable_101 (Eq.refl 102) rfl ?_
            refine Ev.iload_n dX8_laysTable_102 (Eq.refl 103) rfl ?_
            refine Ev.cv1E dX8_laysTable_103 (Eq.refl 106) cw_X8_134 (Nat.le_of_ble_eq_true rfl) (by decide) rfl rfl rfl (Nat.le_of_ble_eq_true rfl) (cFk) ?_
            refine Ev.if_eqB (tgt := 140) dX8_laysTable_106 (Eq.refl 109) (by decide) (fun c106 => ?_) (fun c106 => ?_)
            · exact absurd hf c106
            · refine Ev.aload_n dX8_laysTable_109 (Eq.refl 110) rfl ?_
              refine Ev.getR dX8_laysTable_110 (Eq.refl 113) fg_X8_33 rfl rfl (rX8_12 hR) ?_
              refine Ev.bipush dX8_laysTable_113 (Eq.refl 115) (by decide) ?_
              refine Ev.aload_n dX8_laysTable_115 (Eq.refl 116) rfl ?_
              refine Ev.getR dX8_laysTable_116 (Eq.refl 119) fg_X8_37 rfl rfl (rX8_13 hR) ?_
              refine Ev.iload_n dX8_laysTable_119 (Eq.refl 120) rfl ?_
              refine Ev.iaload dX8_laysTable_120 (Eq.refl 121) rfl rfl (by omega) (by decide) (by first | with_reducible exact Int.toNat_natCast _ | exact Eq.refl _) ?_
              rw [er]
              refine Ev.imul dX8_laysTable_121 (Eq.refl 122) ?_
              refine Ev.iconst dX8_laysTable_122 (Eq.refl 123) ?_
              refine Ev.iadd dX8_laysTable_123 (Eq.refl 124) ?_
              refine Ev.iconst dX8_laysTable_124 (Eq.refl 125) ?_
              refine Ev.iadd dX8_laysTable_125 (Eq.refl 126) ?_
              refine Ev.dup2 dX8_laysTable_126 (Eq.refl 127) rfl rfl ?_
              refine Ev.laload dX8_laysTable_127 (Eq.refl 128) rfl rfl (by omega) (by decide) q1 ?_
              refine Ev.aload_n dX8_laysTable_128 (Eq.refl 129) rfl ?_
              refine Ev.getR dX8_laysTable_129 (Eq.refl 132) fg_X8_13 rfl rfl (rX8_3 hR) ?_
              refine Ev.bipush dX8_laysTable_132 (Eq.refl 134) (by decide) ?_
              refine Ev.iload_n dX8_laysTable_134 (Eq.refl 135) rfl ?_
              refine Ev.iadd dX8_laysTable_135 (Eq.refl 136) ?_
              refine Ev.iaload dX8_laysTable_136 (Eq.refl 137) rfl rfl (by omega) (by decide) q2 ?_
              rw [eL]
              refine Ev.i2l dX8_laysTable_137 (Eq.refl 138) ⟨by omega, by omega⟩ ?_
              refine Ev.ladd dX8_laysTable_138 (Eq.refl 139) ?_
              refine Ev.lastore dX8_laysTable_139 (Eq.refl 140) rfl rfl (by omega) (by decide) q1 ?_
              refine Ev.ii1 dX8_laysTable_140 (Eq.refl 143) (by decide) rfl ?_
              refine Ev.goto' (pc' := 91) dX8_laysTable_143 (by decide) ?_
              exact ih _ (by omega) (k + 1) _ rfl (by omega) hF.w (fun r c hr hc => by have z1 := hW r c hr hc; rw [hL_rd, e0]; simp only [lD]; have z4 : 8 * r + c = 8 * rwo v k + 7 ↔ r = rwo v k ∧ c = 7 := (by omega); grind)
        · refine Ev.iload_n dX8_laysTable_91 (Eq.refl 92) rfl ?_
          refine Ev.aload_n dX8_laysTable_92 (Eq.refl 93) rfl ?_
          refine Ev.getR dX8_laysTable_93 (Eq.refl 96) fg_X8_13 rfl rfl (rX8_3 hR) ?_
          refine Ev.iconst dX8_laysTable_96 (Eq.refl 97) ?_
          refine Ev.iaload dX8_laysTable_97 (Eq.refl 98) rfl rfl (by omega) (by decide) (show (0 : Int).toNat = 0 from rfl) ?_
          rw [g20]
          refine Ev.icmp_ge (tgt := 146) dX8_laysTable_98 (Eq.refl 101) (by decide) ⟨by omega, by omega⟩ ⟨by omega, by omega⟩ (fun c98 => ?_) (fun c98 => ?_)
          · omega
          · refine Ev.aload_n dX8_laysTable_101 (Eq.refl 102) rfl ?_
            refine Ev.iload_n dX8_laysTable_102 (Eq.refl 103) rfl ?_
            refine Ev.cv1E dX8_laysTable_103 (Eq.refl 106) cw_X8_134 (Nat.le_of_ble_eq_true rfl) (by decide) rfl rfl rfl (Nat.le_of_ble_eq_true rfl) (cFk) ?_
            refine Ev.if_eqB (tgt := 140) dX8_laysTable_106 (Eq.refl 109) (by decide) (fun c106 => ?_) (fun c106 => ?_)
            · refine Ev.ii1 dX8_laysTable_140 (Eq.refl 143) (by decide) rfl ?_
              refine Ev.goto' (pc' := 91) dX8_laysTable_143 (by decide) ?_
              exact ih _ (by omega) (k + 1) _ rfl (by omega) hF (fun r c hr hc => by have z1 := hW r c hr hc; rw [z1]; simp only [lD]; rw [if_neg (c := vF v k = true ∧ r = rwo v k) (fun z => hf z.1)])
            · exact absurd c106 hf
      · have e : k = vJ v := by omega
        subst e
        refine Ev.iload_n dX8_laysTable_91 (Eq.refl 92) rfl ?_
        refine Ev.aload_n dX8_laysTable_92 (Eq.refl 93) rfl ?_
        refine Ev.getR dX8_laysTable_93 (Eq.refl 96) fg_X8_13 rfl rfl (rX8_3 hR) ?_
        refine Ev.iconst dX8_laysTable_96 (Eq.refl 97) ?_
        refine Ev.iaload dX8_laysTable_97 (Eq.refl 98) rfl rfl (by omega) (by decide) (show (0 : Int).toNat = 0 from rfl) ?_
        rw [g20]
        refine Ev.icmp_ge (tgt := 146) dX8_laysTable_98 (Eq.refl 101) (by decide) ⟨by omega, by omega⟩ ⟨by omega, by omega⟩ (fun c98 => ?_) (fun c98 => ?_)
        · refine Ev.iconst dX8_laysTable_146 (Eq.refl 147) ?_
          refine Ev.is1 dX8_laysTable_147 (Eq.refl 148) (by decide) rfl ?_
          exact L4 g0 hK h7 nf _ 0 _ rfl (by omega) hF (fun r c hr hc => by rw [hW r c hr hc]; simp only [sm]; omega)
        · omega
  -- zeros
  have L2 : ∀ (g0 : Hp), Lk h g0 → (∀ j, g0.1 7 j = h.1 7 j) → NFm g0 v → ∀ (m k : Nat) (g : Hp), 40 - k = m → k ≤ 40 → F8 g0 g → (∀ i, i < k → g.2.1 8 i = 0) → Ev mX8_laysTable 3 70 [some (.ref 0), some (iv (k : Int))] [] g (PV (fun h' => Lk h h' ∧ (∀ j, h'.1 7 j = h.1 7 j) ∧ NFm h' v ∧ TW h' (vN v) (T0 v))) := by
    intro g0 hK h7 nf m
    induction m using Nat.strongRecOn with
    | ind m ih =>
      intro k g hm hk hF hz
      have hKg := hK.f8 hF
      have hR : MOk g.2.2 := by rw [hKg.1]; exact hR
      refine Ev.iload_n dX8_laysTable_70 (Eq.refl 71) rfl ?_
      refine Ev.bipush dX8_laysTable_71 (Eq.refl 73) (by decide) ?_
      refine Ev.icmp_ge (tgt := 89) dX8_laysTable_73 (Eq.refl 76) (by decide) ⟨by omega, by omega⟩ ⟨by omega, by omega⟩ (fun c73 => ?_) (fun c73 => ?_)
      · have e : k = 40 := by omega
        subst e
        refine Ev.iconst dX8_laysTable_89 (Eq.refl 90) ?_
        refine Ev.is1 dX8_laysTable_90 (Eq.refl 91) (by decide) rfl ?_
        exact L3 g0 hK h7 nf _ 0 _ rfl (by omega) hF (fun r c hr hc => by rw [hz _ (by omega)]; simp only [lD]; split <;> rfl)
      · refine Ev.aload_n dX8_laysTable_76 (Eq.refl 77) rfl ?_
        refine Ev.getR dX8_laysTable_77 (Eq.refl 80) fg_X8_33 rfl rfl (rX8_12 hR) ?_
        refine Ev.iload_n dX8_laysTable_80 (Eq.refl 81) rfl ?_
        refine Ev.lconst0 dX8_laysTable_81 (Eq.refl 82) ?_
        refine Ev.lastore dX8_laysTable_82 (Eq.refl 83) rfl rfl (by omega) (by decide) (by first | with_reducible exact Int.toNat_natCast _ | exact Eq.refl _) ?_
        refine Ev.ii1 dX8_laysTable_83 (Eq.refl 86) (by decide) rfl ?_
        refine Ev.goto' (pc' := 70) dX8_laysTable_86 (by decide) ?_
        exact ih _ (by omega) (k + 1) _ rfl (by omega) hF.w (fun i hi => by rw [hL_rd]; split; rfl; exact hz i (by omega))
  -- rows
  have L1 : ∀ (m k : Nat) (g : Hp), vJ v - k = m → k ≤ vJ v → Lk h g → (∀ j, g.1 7 j = h.1 7 j) → g.1 0 14 = (rwo v k : Int) → (∀ j, j < k → vF v j = true → g.1 9 j = (rwo v j : Int)) → Ev mX8_laysTable 3 7 [some (.ref 0), some (iv (k : Int))] [] g (PV (fun h' => Lk h h' ∧ (∀ j, h'.1 7 j = h.1 7 j) ∧ NFm h' v ∧ TW h' (vN v) (T0 v))) := by
    intro m
    induction m using Nat.strongRecOn with
    | ind m ih =>
      intro k g hm hk hK h7 h4 hr
      have hR : MOk g.2.2 := by rw [hK.1]; exact hR
      have g20 : g.1 2 0 = (vJ v : Int) := by rw [hK.s]; exact eJ
      have hc : rwo v k ≤ vN v := cnt_up (vF v) hk
      by_cases hk2 : k < vJ v
      · have cF0 := cF g k hK hk2
        have cF1 := fun x => cF (hI g 9 k x) k (hK.wI (by omega)) hk2
        by_cases hf : vF v k = true
        · have en : rwo v (k + 1) = rwo v k + 1 := cnt_s hf
          refine Ev.iload_n dX8_laysTable_7 (Eq.refl 8) rfl ?_
          refine Ev.aload_n dX8_laysTable_8 (Eq.refl 9) rfl ?_
          refine Ev.getR dX8_laysTable_9 (Eq.refl 12) fg_X8_13 rfl rfl (rX8_3 hR) ?_
          refine Ev.iconst dX8_laysTable_12 (Eq.refl 13) ?_
          refine Ev.iaload dX8_laysTable_13 (Eq.refl 14) rfl rfl (by omega) (by decide) (show (0 : Int).toNat = 0 from rfl) ?_
          rw [g20]
          refine Ev.icmp_ge (tgt := 68) dX8_laysTable_14 (Eq.refl 17) (by decide) ⟨by omega, by omega⟩ ⟨by omega, by omega⟩ (fun c14 => ?_) (fun c14 => ?_)
          · omega
          · refine Ev.aload_n dX8_laysTable_17 (Eq.refl 18) rfl ?_
            refine Ev.getR dX8_laysTable_18 (Eq.refl 21) fg_X8_37 rfl rfl (rX8_13 hR) ?_
            refine Ev.iload_n dX8_laysTable_21 (Eq.refl 22) rfl ?_
            refine Ev.aload_n dX8_laysTable_22 (Eq.refl 23) rfl ?_
            refine Ev.iload_n dX8_laysTable_23 (Eq.refl 24) rfl ?_
            refine Ev.cv1E dX8_laysTable_24 (Eq.refl 27) cw_X8_134 (Nat.le_of_ble_eq_true rfl) (by decide) rfl rfl rfl (Nat.le_of_ble_eq_true rfl) (cF0) ?_
            refine Ev.if_eqB (tgt := 37) dX8_laysTable_27 (Eq.refl 30) (by decide) (fun c27 => ?_) (fun c27 => ?_)
            · exact absurd hf c27
            · refine Ev.aload_n dX8_laysTable_30 (Eq.refl 31) rfl ?_
              refine Ev.getI dX8_laysTable_31 (Eq.refl 34) fg_X8_140 rfl rfl ?_
              rw [h4]
              refine Ev.goto' (pc' := 39) dX8_laysTable_34 (by decide) ?_
              refine Ev.iastore dX8_laysTable_39 (Eq.refl 40) rfl rfl (by omega) (by decide) (by first | with_reducible exact Int.toNat_natCast _ | exact Eq.refl _) ?_
              refine Ev.aload_n dX8_laysTable_40 (Eq.refl 41) rfl ?_
              refine Ev.dupR dX8_laysTable_41 (Eq.refl 42) ?_
              refine Ev.getI dX8_laysTable_42 (Eq.refl 45) fg_X8_140 rfl rfl ?_
              rw [hI_ni (by omega), h4]
              refine Ev.aload_n dX8_laysTable_45 (Eq.refl 46) rfl ?_
              refine Ev.iload_n dX8_laysTable_46 (Eq.refl 47) rfl ?_
              refine Ev.cv1E dX8_laysTable_47 (Eq.refl 50) cw_X8_134 (Nat.le_of_ble_eq_true rfl) (by decide) rfl rfl rfl (Nat.le_of_ble_eq_true rfl) (cF1 _) ?_
              refine Ev.if_eqB (tgt := 57) dX8_laysTable_50 (Eq.refl 53) (by decide) (fun c50 => ?_) (fun c50 => ?_)
              · exact absurd hf c50
              · refine Ev.iconst dX8_laysTable_53 (Eq.refl 54) ?_
                refine Ev.goto' (pc' := 58) dX8_laysTable_54 (by decide) ?_
                refine Ev.iadd dX8_laysTable_58 (Eq.refl 59) ?_
                refine Ev.putI dX8_laysTable_59 (Eq.refl 62) fp_X8_140 rfl rfl (Or.inl rfl) ?_
                refine Ev.ii1 dX8_laysTable_62 (Eq.refl 65) (by decide) rfl ?_
                refine Ev.goto' (pc' := 7) dX8_laysTable_65 (by decide) ?_
                exact ih _ (by omega) (k + 1) _ rfl (by omega) ((hK.wI (by omega)).wI (by omega)) (fun j => by rw [hI_ni (by omega), hI_ni (by omega)]; exact h7 j) (by rw [hI_eq, en]; push_cast; rfl) (fun j hj hfj => by rw [hI_ni (by omega)]; exact (if e : j = k then by rw [e, hI_eq] else by rw [hI_nk e]; exact hr j (by omega) hfj))
        · have en : rwo v (k + 1) = rwo v k := cnt_n (by cases z : vF v k with | false => rfl | true => exact absurd z hf)
          refine Ev.iload_n dX8_laysTable_7 (Eq.refl 8) rfl ?_
          refine Ev.aload_n dX8_laysTable_8 (Eq.refl 9) rfl ?_
          refine Ev.getR dX8_laysTable_9 (Eq.refl 12) fg_X8_13 rfl rfl (rX8_3 hR) ?_
          refine Ev.iconst dX8_laysTable_12 (Eq.refl 13) ?_
          refine Ev.iaload dX8_laysTable_13 (Eq.refl 14) rfl rfl (by omega) (by decide) (show (0 : Int).toNat = 0 from rfl) ?_
          rw [g20]
          refine Ev.icmp_ge (tgt := 68) dX8_laysTable_14 (Eq.refl 17) (by decide) ⟨by omega, by omega⟩ ⟨by omega, by omega⟩ (fun c14 => ?_) (fun c14 => ?_)
          · omega
          · refine Ev.aload_n dX8_laysTable_17 (Eq.refl 18) rfl ?_
            refine Ev.getR dX8_laysTable_18 (Eq.refl 21) fg_X8_37 rfl rfl (rX8_13 hR) ?_
            refine Ev.iload_n dX8_laysTable_21 (Eq.refl 22) rfl ?_
            refine Ev.aload_n dX8_laysTable_22 (Eq.refl 23) rfl ?_
            refine Ev.iload_n dX8_laysTable_23 (Eq.refl 24) rfl ?_
            refine Ev.cv1E dX8_laysTable_24 (Eq.refl 27) cw_X8_134 (Nat.le_of_ble_eq_true rfl) (by decide) rfl rfl rfl (Nat.le_of_ble_eq_true rfl) (cF0) ?_
            refine Ev.if_eqB (tgt := 37) dX8_laysTable_27 (Eq.refl 30) (by decide) (fun c27 => ?_) (fun c27 => ?_)
            · refine Ev.bipush dX8_laysTable_37 (Eq.refl 39) (by decide) ?_
              refine Ev.iastore dX8_laysTable_39 (Eq.refl 40) rfl rfl (by omega) (by decide) (by first | with_reducible exact Int.toNat_natCast _ | exact Eq.refl _) ?_
              refine Ev.aload_n dX8_laysTable_40 (Eq.refl 41) rfl ?_
              refine Ev.dupR dX8_laysTable_41 (Eq.refl 42) ?_
              refine Ev.getI dX8_laysTable_42 (Eq.refl 45) fg_X8_140 rfl rfl ?_
              rw [hI_ni (by omega), h4]
              refine Ev.aload_n dX8_laysTable_45 (Eq.refl 46) rfl ?_
              refine Ev.iload_n dX8_laysTable_46 (Eq.refl 47) rfl ?_
              refine Ev.cv1E dX8_laysTable_47 (Eq.refl 50) cw_X8_134 (Nat.le_of_ble_eq_true rfl) (by decide) rfl rfl rfl (Nat.le_of_ble_eq_true rfl) (cF1 _) ?_
              refine Ev.if_eqB (tgt := 57) dX8_laysTable_50 (Eq.refl 53) (by decide) (fun c50 => ?_) (fun c50 => ?_)
              · refine Ev.iconst dX8_laysTable_57 (Eq.refl 58) ?_
                refine Ev.iadd dX8_laysTable_58 (Eq.refl 59) ?_
                refine Ev.putI dX8_laysTable_59 (Eq.refl 62) fp_X8_140 rfl rfl (Or.inl rfl) ?_
                refine Ev.ii1 dX8_laysTable_62 (Eq.refl 65) (by decide) rfl ?_
                refine Ev.goto' (pc' := 7) dX8_laysTable_65 (by decide) ?_
                exact ih _ (by omega) (k + 1) _ rfl (by omega) ((hK.wI (by omega)).wI (by omega)) (fun j => by rw [hI_ni (by omega), hI_ni (by omega)]; exact h7 j) (by rw [hI_eq, en]; omega) (fun j hj hfj => by rw [hI_ni (by omega)]; exact (if e : j = k then absurd (e ▸ hfj) hf else by rw [hI_nk e]; exact hr j (by omega) hfj))
              · exact absurd c50 hf
            · exact absurd c27 hf
      · have e : k = vJ v := by omega
        subst e
        refine Ev.iload_n dX8_laysTable_7 (Eq.refl 8) rfl ?_
        refine Ev.aload_n dX8_laysTable_8 (Eq.refl 9) rfl ?_
        refine Ev.getR dX8_laysTable_9 (Eq.refl 12) fg_X8_13 rfl rfl (rX8_3 hR) ?_
        refine Ev.iconst dX8_laysTable_12 (Eq.refl 13) ?_
        refine Ev.iaload dX8_laysTable_13 (Eq.refl 14) rfl rfl (by omega) (by decide) (show (0 : Int).toNat = 0 from rfl) ?_
        rw [g20]
        refine Ev.icmp_ge (tgt := 68) dX8_laysTable_14 (Eq.refl 17) (by decide) ⟨by omega, by omega⟩ ⟨by omega, by omega⟩ (fun c14 => ?_) (fun c14 => ?_)
        · refine Ev.iconst dX8_laysTable_68 (Eq.refl 69) ?_
          refine Ev.is1 dX8_laysTable_69 (Eq.refl 70) (by decide) rfl ?_
          exact L2 g hK h7 ⟨h4, hr⟩ _ 0 _ rfl (by omega) F8.rf (fun i hi => by omega)
        · omega
  refine Ev.aload_n dX8_laysTable_0 (Eq.refl 1) rfl ?_
  refine Ev.iconst dX8_laysTable_1 (Eq.refl 2) ?_
  refine Ev.putI dX8_laysTable_2 (Eq.refl 5) fp_X8_140 rfl rfl (Or.inl rfl) ?_
  refine Ev.iconst dX8_laysTable_5 (Eq.refl 6) ?_
  refine Ev.is1 dX8_laysTable_6 (Eq.refl 7) (by decide) rfl ?_
  exact L1 _ 0 _ rfl (by omega) (Lk.rf.wI (by omega)) (fun j => hI_ni (by omega)) (by rw [hI_eq]; rfl) (fun j hj => by omega)
