/-! The model: laysEnd, laysTable -/
def TW (h : Hp) (N : Nat) (T : Nat → Nat → Int) : Prop := ∀ r c, r < N → c < 8 → h.2.1 8 (8 * r + c) = T r c
def F8 (h h' : Hp) : Prop := h'.1 = h.1 ∧ h'.2.2 = h.2.2 ∧ ∀ i, i ≠ 8 → ∀ j, h'.2.1 i j = h.2.1 i j
theorem F8.rf {h : Hp} : F8 h h := ⟨rfl, rfl, fun _ _ _ => rfl⟩
theorem F8.tr {h g f : Hp} (a : F8 h g) (b : F8 g f) : F8 h f := ⟨b.1.trans a.1, b.2.1.trans a.2.1, fun i q j => (b.2.2 i q j).trans (a.2.2 i q j)⟩
theorem F8.w {h g : Hp} {k : Nat} {x : Int} (a : F8 h g) : F8 h (hL g 8 k x) := ⟨a.1, a.2.1, fun i q j => by rw [hL_ni q]; exact a.2.2 i q j⟩
def NFm (h : Hp) (v : Nv) : Prop := h.1 0 14 = (vN v : Int) ∧ ∀ j, j < vJ v → vF v j = true → h.1 9 j = (rwo v j : Int)
theorem eE8 {v : Nv} {k j o c : Nat} (hv : VOk v) (hj : j < vJ v) (ho : o < vJ v) (fj : vF v j = true) (hc : c < 8) : eE v k j o c = (if c = rwo v j then vQ v k else 0) - (if vF v o = true ∧ c = rwo v o then vQ v k else 0) + (if vF v o = false ∧ 5 ≤ c then vQ v k * vP v o (c - 5) else 0) := by
  unfold eE
  grind
theorem m_laysEnd {h : Hp} {k j o : Nat} {T : Nat → Nat → Int} (hR : MOk h.2.2) (ok : GOk (h.1 2)) (nf : NFm h (gV (h.1 2))) (hk : k < vS (gV (h.1 2))) (he : vA (gV (h.1 2)) k = j ∧ vB (gV (h.1 2)) k = o ∨ vA (gV (h.1 2)) k = o ∧ vB (gV (h.1 2)) k = j) (hW : TW h (vN (gV (h.1 2))) T) : Ev mX8_laysEnd 2 0 (entL [.ref 0, iv (k : Int), iv (j : Int)] 7) [] h (PV (fun h' => F8 h h' ∧ TW h' (vN (gV (h.1 2))) (fun r c => T r c + if vF (gV (h.1 2)) j = true ∧ r = rwo (gV (h.1 2)) j then eE (gV (h.1 2)) k j o c else 0))) := by
  show Ev mX8_laysEnd 2 0 [some (.ref 0), some (iv (k : Int)), some (iv (j : Int)), none, none, none, none] [] h _
  have hv := ok.2.2.2.2
  have hJ := hv.1
  have hS14 := hv.2.1
  have h5 := vN5 hv
  have b := hv.2.2.2.1 k hk
  have eJ := gJ ok
  have hjo : j < vJ (gV (h.1 2)) ∧ o < vJ (gV (h.1 2)) ∧ j ≠ o := by rcases he with ⟨rfl, rfl⟩ | ⟨rfl, rfl⟩ <;> omega
  have eo : oth (gV (h.1 2)) k j = o := by
    unfold oth
    rcases he with ⟨h1, h2⟩ | ⟨h1, h2⟩
    · rw [if_pos h1]; exact h2
    · rw [if_neg (by omega)]; exact h1
  have e2 : ∀ g, F8 h g → g.1 2 = h.1 2 := fun g z => by rw [z.1]
  have cF : ∀ (g : Hp) (i : Nat), F8 h g → i < vJ (gV (h.1 2)) → Ev mX8_isFree 0 0 (entL [.ref 0, iv (i : Int)] 2) [] g (PE (bi (vF (gV (h.1 2)) i = true)) g) := fun g i z hi => by
    have := m_isFree (h := g) (j := i) (by rw [z.2.1]; exact hR) (by rw [e2 g z]; exact ok) (by rw [e2 g z]; exact hi)
    rw [e2 g z] at this; exact this
  have cO := m_other (h := h) (k := k) (j := j) hR ok hk (by omega)
  rw [eo] at cO
  have cQ := m_ofQ (h := h) (k := k) hR ok hk
  have hpb := fun a => hv.2.2.2.2.2.1 o a
  have eEc := fun c (fj : vF (gV (h.1 2)) j = true) (hc : c < 8) => eE8 (k := k) (o := o) hv hjo.1 hjo.2.1 fj hc
  have hP := fun (a : Nat) (hf : vF (gV (h.1 2)) o = false) (ha : a < 3) => gP (f := h.1 2) (j := o) (a := a) (by omega) (fun z => by rw [(gF (by omega)).mp z] at hf; cases hf) ha
  generalize hve : gV (h.1 2) = v at *
  by_cases fj : vF v j = true
  · have nj := nf.2 j hjo.1 fj
    have rj := rwo_lt hjo.1 fj
    have LOOP : vF v o = false → ∀ (m a : Nat) (g : Hp), 3 - a = m → a ≤ 3 → F8 h g → (∀ r c, r < vN v → c < 8 → g.2.1 8 (8 * r + c) = T r c + if r = rwo v j then ((if c = rwo v j then vQ v k else 0) + if 5 ≤ c ∧ c < 5 + a then vQ v k * vP v o (c - 5) else 0) else 0) → Ev mX8_laysEnd 2 86 [some (.ref 0), some (iv (k : Int)), some (iv (j : Int)), some (iv (8 * (rwo v j : Int))), some (iv (o : Int)), some (iv (vQ v k)), some (iv (a : Int))] [] g (PV (fun h' => F8 h h' ∧ TW h' (vN v) (fun r c => T r c + if vF v j = true ∧ r = rwo v j then eE v k j o c else 0))) := by
      intro fo m
      induction m using Nat.strongRecOn with
      | ind m ih =>
        intro a g hm ha hF hg
        have hR : MOk g.2.2 := by rw [hF.2.1]; exact hR
        have hpa := hpb a
        by_cases a3 : a < 3
        · have q1 : ((8 : Int) * (rwo v j : Int) + 5 + (a : Int)).toNat = 8 * rwo v j + (5 + a) := by omega
          have q2 : ((14 : Int) + 3 * (o : Int) + (a : Int)).toNat = 14 + 3 * o + a := by omega
          have ep : g.1 2 (14 + 3 * o + a) = vP v o a := by rw [hF.1]; exact hP a fo a3
          refine Ev.iload dX8_laysEnd_86 (Eq.refl 88) rfl ?_
          refine Ev.iconst dX8_laysEnd_88 (Eq.refl 89) ?_
          refine Ev.icmp_ge (tgt := 141) dX8_laysEnd_89 (Eq.refl 92) (by decide) ⟨by omega, by omega⟩ ⟨by omega, by omega⟩ (fun c89 => ?_) (fun c89 => ?_)
          · omega
          · refine Ev.aload_n dX8_laysEnd_92 (Eq.refl 93) rfl ?_
            refine Ev.iload dX8_laysEnd_93 (Eq.refl 95) rfl ?_
            refine Ev.cv1E dX8_laysEnd_95 (Eq.refl 98) cw_X8_134 (Nat.le_of_ble_eq_true rfl) (by decide) rfl rfl rfl (Nat.le_of_ble_eq_true rfl) (cF g o hF hjo.2.1) ?_
            refine Ev.if_neB (tgt := 141) dX8_laysEnd_98 (Eq.refl 101) (by decide) (fun c98 => ?_) (fun c98 => ?_)
            · exact absurd c98 (by rw [fo]; decide)
            · refine Ev.aload_n dX8_laysEnd_101 (Eq.refl 102) rfl ?_
              refine Ev.getR dX8_laysEnd_102 (Eq.refl 105) fg_X8_33 rfl rfl (rX8_12 hR) ?_
              refine Ev.iload_n dX8_laysEnd_105 (Eq.refl 106) rfl ?_
              refine Ev.iconst dX8_laysEnd_106 (Eq.refl 107) ?_
              refine Ev.iadd dX8_laysEnd_107 (Eq.refl 108) ?_
              refine Ev.iload dX8_laysEnd_108 (Eq.refl 110) rfl ?_
              refine Ev.iadd dX8_laysEnd_110 (Eq.refl 111) ?_
              refine Ev.dup2 dX8_laysEnd_111 (Eq.refl 112) rfl rfl ?_
              refine Ev.laload dX8_laysEnd_112 (Eq.refl 113) rfl rfl (by omega) (by decide) q1 ?_
              refine Ev.iload dX8_laysEnd_113 (Eq.refl 115) rfl ?_
              refine Ev.i2l dX8_laysEnd_115 (Eq.refl 116) ⟨by omega, by omega⟩ ?_
              refine Ev.aload_n dX8_laysEnd_116 (Eq.refl 117) rfl ?_
              refine Ev.getR dX8_laysEnd_117 (Eq.refl 120) fg_X8_13 rfl rfl (rX8_3 hR) ?_
              refine Ev.bipush dX8_laysEnd_120 (Eq.refl 122) (by decide) ?_
              refine Ev.iconst dX8_laysEnd_122 (Eq.refl 123) ?_
              refine Ev.iload dX8_laysEnd_123 (Eq.refl 125) rfl ?_
              refine Ev.imul dX8_laysEnd_125 (Eq.refl 126) ?_
              refine Ev.iadd dX8_laysEnd_126 (Eq.refl 127) ?_
              refine Ev.iload dX8_laysEnd_127 (Eq.refl 129) rfl ?_
              refine Ev.iadd dX8_laysEnd_129 (Eq.refl 130) ?_
              refine Ev.iaload dX8_laysEnd_130 (Eq.refl 131) rfl rfl (by omega) (by decide) q2 ?_
              rw [ep]
              refine Ev.i2l dX8_laysEnd_131 (Eq.refl 132) ⟨by omega, by omega⟩ ?_
              refine Ev.lmul dX8_laysEnd_132 (Eq.refl 133) ?_
              refine Ev.ladd dX8_laysEnd_133 (Eq.refl 134) ?_
              refine Ev.lastore dX8_laysEnd_134 (Eq.refl 135) rfl rfl (by omega) (by decide) q1 ?_
              refine Ev.ii6 dX8_laysEnd_135 (Eq.refl 138) (by decide) rfl ?_
              refine Ev.goto' (pc' := 86) dX8_laysEnd_138 (by decide) ?_
              exact ih _ (by omega) (a + 1) _ rfl (by omega) hF.w (fun r c hr hc => by have z1 := hg r c hr hc; have z2 := hg (rwo v j) (5 + a) rj (by omega); rw [hL_rd]; have z3 : 5 + a - 5 = a := (by omega); have z4 : 8 * r + c = 8 * rwo v j + (5 + a) ↔ r = rwo v j ∧ c = 5 + a := (by omega); grind)
        · have a4 : a = 3 := by omega
          subst a4
          refine Ev.iload dX8_laysEnd_86 (Eq.refl 88) rfl ?_
          refine Ev.iconst dX8_laysEnd_88 (Eq.refl 89) ?_
          refine Ev.icmp_ge (tgt := 141) dX8_laysEnd_89 (Eq.refl 92) (by decide) ⟨by omega, by omega⟩ ⟨by omega, by omega⟩ (fun c89 => ?_) (fun c89 => ?_)
          · exact Ev.vret dX8_laysEnd_141 rfl (⟨rfl, hF, fun r c hr hc => by have z1 := hg r c hr hc; have z2 := eEc c fj hc; rw [z1]; grind⟩)
          · omega
    have q0 : ((8 : Int) * (rwo v j : Int) + (rwo v j : Int)).toNat = 8 * rwo v j + rwo v j := by omega
    by_cases fo : vF v o = true
    · have no := nf.2 o hjo.2.1 fo
      have ro := rwo_lt hjo.2.1 fo
      have hne : rwo v j ≠ rwo v o := fun e => hjo.2.2 (cnt_inj fj fo e)
      have q3 : ((8 : Int) * (rwo v j : Int) + (rwo v o : Int)).toNat = 8 * rwo v j + rwo v o := by omega
      refine Ev.aload_n dX8_laysEnd_0 (Eq.refl 1) rfl ?_
      refine Ev.iload_n dX8_laysEnd_1 (Eq.refl 2) rfl ?_
      refine Ev.cv1E dX8_laysEnd_2 (Eq.refl 5) cw_X8_134 (Nat.le_of_ble_eq_true rfl) (by decide) rfl rfl rfl (Nat.le_of_ble_eq_true rfl) (cF h j F8.rf hjo.1) ?_
      refine Ev.if_neB (tgt := 9) dX8_laysEnd_5 (Eq.refl 8) (by decide) (fun c5 => ?_) (fun c5 => ?_)
      · refine Ev.bipush dX8_laysEnd_9 (Eq.refl 11) (by decide) ?_
        refine Ev.aload_n dX8_laysEnd_11 (Eq.refl 12) rfl ?_
        refine Ev.getR dX8_laysEnd_12 (Eq.refl 15) fg_X8_37 rfl rfl (rX8_13 hR) ?_
        refine Ev.iload_n dX8_laysEnd_15 (Eq.refl 16) rfl ?_
        refine Ev.iaload dX8_laysEnd_16 (Eq.refl 17) rfl rfl (by omega) (by decide) (by first | with_reducible exact Int.toNat_natCast _ | exact Eq.refl _) ?_
        rw [nj]
        refine Ev.imul dX8_laysEnd_17 (Eq.refl 18) ?_
        refine Ev.is3 dX8_laysEnd_18 (Eq.refl 19) (by decide) rfl ?_
        refine Ev.aload_n dX8_laysEnd_19 (Eq.refl 20) rfl ?_
        refine Ev.iload_n dX8_laysEnd_20 (Eq.refl 21) rfl ?_
        refine Ev.iload_n dX8_laysEnd_21 (Eq.refl 22) rfl ?_
        refine Ev.cv2E dX8_laysEnd_22 (Eq.refl 25) cw_X8_147 (Nat.le_of_ble_eq_true rfl) (by decide) rfl rfl rfl (Nat.le_of_ble_eq_true rfl) (cO) ?_
        refine Ev.is4 dX8_laysEnd_25 (Eq.refl 27) (by decide) rfl ?_
        refine Ev.aload_n dX8_laysEnd_27 (Eq.refl 28) rfl ?_
        refine Ev.iload_n dX8_laysEnd_28 (Eq.refl 29) rfl ?_
        refine Ev.iconst dX8_laysEnd_29 (Eq.refl 30) ?_
        refine Ev.cv2E dX8_laysEnd_30 (Eq.refl 33) cw_X8_131 (Nat.le_of_ble_eq_true rfl) (by decide) rfl rfl rfl (Nat.le_of_ble_eq_true rfl) (cQ) ?_
        refine Ev.is5 dX8_laysEnd_33 (Eq.refl 35) (by decide) rfl ?_
        refine Ev.aload_n dX8_laysEnd_35 (Eq.refl 36) rfl ?_
        refine Ev.getR dX8_laysEnd_36 (Eq.refl 39) fg_X8_33 rfl rfl (rX8_12 hR) ?_
        refine Ev.iload_n dX8_laysEnd_39 (Eq.refl 40) rfl ?_
        refine Ev.aload_n dX8_laysEnd_40 (Eq.refl 41) rfl ?_
        refine Ev.getR dX8_laysEnd_41 (Eq.refl 44) fg_X8_37 rfl rfl (rX8_13 hR) ?_
        refine Ev.iload_n dX8_laysEnd_44 (Eq.refl 45) rfl ?_
        refine Ev.iaload dX8_laysEnd_45 (Eq.refl 46) rfl rfl (by omega) (by decide) (by first | with_reducible exact Int.toNat_natCast _ | exact Eq.refl _) ?_
        rw [nj]
        refine Ev.iadd dX8_laysEnd_46 (Eq.refl 47) ?_
        refine Ev.dup2 dX8_laysEnd_47 (Eq.refl 48) rfl rfl ?_
        refine Ev.laload dX8_laysEnd_48 (Eq.refl 49) rfl rfl (by omega) (by decide) q0 ?_
        refine Ev.iload dX8_laysEnd_49 (Eq.refl 51) rfl ?_
        refine Ev.i2l dX8_laysEnd_51 (Eq.refl 52) ⟨by omega, by omega⟩ ?_
        refine Ev.ladd dX8_laysEnd_52 (Eq.refl 53) ?_
        refine Ev.lastore dX8_laysEnd_53 (Eq.refl 54) rfl rfl (by omega) (by decide) q0 ?_
        refine Ev.aload_n dX8_laysEnd_54 (Eq.refl 55) rfl ?_
        refine Ev.iload dX8_laysEnd_55 (Eq.refl 57) rfl ?_
        refine Ev.cv1E dX8_laysEnd_57 (Eq.refl 60) cw_X8_134 (Nat.le_of_ble_eq_true rfl) (by decide) rfl rfl rfl (Nat.le_of_ble_eq_true rfl) (cF (hL h 8 (8 * rwo v j + rwo v j) (h.2.1 8 (8 * rwo v j + rwo v j) + vQ v k)) o F8.rf.w hjo.2.1) ?_
        refine Ev.if_eqB (tgt := 83) dX8_laysEnd_60 (Eq.refl 63) (by decide) (fun c60 => ?_) (fun c60 => ?_)
        · exact absurd fo c60
        · refine Ev.aload_n dX8_laysEnd_63 (Eq.refl 64) rfl ?_
          refine Ev.getR dX8_laysEnd_64 (Eq.refl 67) fg_X8_33 rfl rfl (rX8_12 hR) ?_
          refine Ev.iload_n dX8_laysEnd_67 (Eq.refl 68) rfl ?_
          refine Ev.aload_n dX8_laysEnd_68 (Eq.refl 69) rfl ?_
          refine Ev.getR dX8_laysEnd_69 (Eq.refl 72) fg_X8_37 rfl rfl (rX8_13 hR) ?_
          refine Ev.iload dX8_laysEnd_72 (Eq.refl 74) rfl ?_
          refine Ev.iaload dX8_laysEnd_74 (Eq.refl 75) rfl rfl (by omega) (by decide) (by first | with_reducible exact Int.toNat_natCast _ | exact Eq.refl _) ?_
          rw [hL_I, no]
          refine Ev.iadd dX8_laysEnd_75 (Eq.refl 76) ?_
          refine Ev.dup2 dX8_laysEnd_76 (Eq.refl 77) rfl rfl ?_
          refine Ev.laload dX8_laysEnd_77 (Eq.refl 78) rfl rfl (by omega) (by decide) q3 ?_
          rw [hL_nk (by omega)]
          refine Ev.iload dX8_laysEnd_78 (Eq.refl 80) rfl ?_
          refine Ev.i2l dX8_laysEnd_80 (Eq.refl 81) ⟨by omega, by omega⟩ ?_
          refine Ev.lsub dX8_laysEnd_81 (Eq.refl 82) ?_
          refine Ev.lastore dX8_laysEnd_82 (Eq.refl 83) rfl rfl (by omega) (by decide) q3 ?_
          refine Ev.iconst dX8_laysEnd_83 (Eq.refl 84) ?_
          refine Ev.is6 dX8_laysEnd_84 (Eq.refl 86) (by decide) rfl ?_
          refine Ev.iload dX8_laysEnd_86 (Eq.refl 88) rfl ?_
          refine Ev.iconst dX8_laysEnd_88 (Eq.refl 89) ?_
          refine Ev.icmp_ge (tgt := 141) dX8_laysEnd_89 (Eq.refl 92) (by decide) ⟨by omega, by omega⟩ ⟨by omega, by omega⟩ (fun c89 => ?_) (fun c89 => ?_)
          · omega
          · refine Ev.aload_n dX8_laysEnd_92 (Eq.refl 93) rfl ?_
            refine Ev.iload dX8_laysEnd_93 (Eq.refl 95) rfl ?_
            refine Ev.cv1E dX8_laysEnd_95 (Eq.refl 98) cw_X8_134 (Nat.le_of_ble_eq_true rfl) (by decide) rfl rfl rfl (Nat.le_of_ble_eq_true rfl) (cF (hL (hL h 8 (8 * rwo v j + rwo v j) (h.2.1 8 (8 * rwo v j + rwo v j) + vQ v k)) 8 (8 * rwo v j + rwo v o) (h.2.1 8 (8 * rwo v j + rwo v o) - vQ v k)) o F8.rf.w.w hjo.2.1) ?_
            refine Ev.if_neB (tgt := 141) dX8_laysEnd_98 (Eq.refl 101) (by decide) (fun c98 => ?_) (fun c98 => ?_)
            · exact Ev.vret dX8_laysEnd_141 rfl (⟨rfl, F8.rf.w.w, fun r c hr hc => by have z1 := hW r c hr hc; have z2 := eEc c fj hc; have z3 := hW (rwo v j) (rwo v j) rj (by omega); have z4 := hW (rwo v j) (rwo v o) rj (by omega); have z5 : 8 * r + c = 8 * rwo v j + rwo v j ↔ r = rwo v j ∧ c = rwo v j := (by omega); have z6 : 8 * r + c = 8 * rwo v j + rwo v o ↔ r = rwo v j ∧ c = rwo v o := (by omega); rw [hL_rd, hL_rd]; grind⟩)
            · exact absurd fo c98
      · exact absurd fj c5
    · have fo2 : vF v o = false := by cases z : vF v o with | false => rfl | true => exact absurd z fo
      refine Ev.aload_n dX8_laysEnd_0 (Eq.refl 1) rfl ?_
      refine Ev.iload_n dX8_laysEnd_1 (Eq.refl 2) rfl ?_
      refine Ev.cv1E dX8_laysEnd_2 (Eq.refl 5) cw_X8_134 (Nat.le_of_ble_eq_true rfl) (by decide) rfl rfl rfl (Nat.le_of_ble_eq_true rfl) (cF h j F8.rf hjo.1) ?_
      refine Ev.if_neB (tgt := 9) dX8_laysEnd_5 (Eq.refl 8) (by decide) (fun c5 => ?_) (fun c5 => ?_)
      · refine Ev.bipush dX8_laysEnd_9 (Eq.refl 11) (by decide) ?_
        refine Ev.aload_n dX8_laysEnd_11 (Eq.refl 12) rfl ?_
        refine Ev.getR dX8_laysEnd_12 (Eq.refl 15) fg_X8_37 rfl rfl (rX8_13 hR) ?_
        refine Ev.iload_n dX8_laysEnd_15 (Eq.refl 16) rfl ?_
        refine Ev.iaload dX8_laysEnd_16 (Eq.refl 17) rfl rfl (by omega) (by decide) (by first | with_reducible exact Int.toNat_natCast _ | exact Eq.refl _) ?_
        rw [nj]
        refine Ev.imul dX8_laysEnd_17 (Eq.refl 18) ?_
        refine Ev.is3 dX8_laysEnd_18 (Eq.refl 19) (by decide) rfl ?_
        refine Ev.aload_n dX8_laysEnd_19 (Eq.refl 20) rfl ?_
        refine Ev.iload_n dX8_laysEnd_20 (Eq.refl 21) rfl ?_
        refine Ev.iload_n dX8_laysEnd_21 (Eq.refl 22) rfl ?_
        refine Ev.cv2E dX8_laysEnd_22 (Eq.refl 25) cw_X8_147 (Nat.le_of_ble_eq_true rfl) (by decide) rfl rfl rfl (Nat.le_of_ble_eq_true rfl) (cO) ?_
        refine Ev.is4 dX8_laysEnd_25 (Eq.refl 27) (by decide) rfl ?_
        refine Ev.aload_n dX8_laysEnd_27 (Eq.refl 28) rfl ?_
        refine Ev.iload_n dX8_laysEnd_28 (Eq.refl 29) rfl ?_
        refine Ev.iconst dX8_laysEnd_29 (Eq.refl 30) ?_
        refine Ev.cv2E dX8_laysEnd_30 (Eq.refl 33) cw_X8_131 (Nat.le_of_ble_eq_true rfl) (by decide) rfl rfl rfl (Nat.le_of_ble_eq_true rfl) (cQ) ?_
        refine Ev.is5 dX8_laysEnd_33 (Eq.refl 35) (by decide) rfl ?_
        refine Ev.aload_n dX8_laysEnd_35 (Eq.refl 36) rfl ?_
        refine Ev.getR dX8_laysEnd_36 (Eq.refl 39) fg_X8_33 rfl rfl (rX8_12 hR) ?_
        refine Ev.iload_n dX8_laysEnd_39 (Eq.refl 40) rfl ?_
        refine Ev.aload_n dX8_laysEnd_40 (Eq.refl 41) rfl ?_
        refine Ev.getR dX8_laysEnd_41 (Eq.refl 44) fg_X8_37 rfl rfl (rX8_13 hR) ?_
        refine Ev.iload_n dX8_laysEnd_44 (Eq.refl 45) rfl ?_
        refine Ev.iaload dX8_laysEnd_45 (Eq.refl 46) rfl rfl (by omega) (by decide) (by first | with_reducible exact Int.toNat_natCast _ | exact Eq.refl _) ?_
        rw [nj]
        refine Ev.iadd dX8_laysEnd_46 (Eq.refl 47) ?_
        refine Ev.dup2 dX8_laysEnd_47 (Eq.refl 48) rfl rfl ?_
        refine Ev.laload dX8_laysEnd_48 (Eq.refl 49) rfl rfl (by omega) (by decide) q0 ?_
        refine Ev.iload dX8_laysEnd_49 (Eq.refl 51) rfl ?_
        refine Ev.i2l dX8_laysEnd_51 (Eq.refl 52) ⟨by omega, by omega⟩ ?_
        refine Ev.ladd dX8_laysEnd_52 (Eq.refl 53) ?_
        refine Ev.lastore dX8_laysEnd_53 (Eq.refl 54) rfl rfl (by omega) (by decide) q0 ?_
        refine Ev.aload_n dX8_laysEnd_54 (Eq.refl 55) rfl ?_
        refine Ev.iload dX8_laysEnd_55 (Eq.refl 57) rfl ?_
        refine Ev.cv1E dX8_laysEnd_57 (Eq.refl 60) cw_X8_134 (Nat.le_of_ble_eq_true rfl) (by decide) rfl rfl rfl (Nat.le_of_ble_eq_true rfl) (cF (hL h 8 (8 * rwo v j + rwo v j) (h.2.1 8 (8 * rwo v j + rwo v j) + vQ v k)) o F8.rf.w hjo.2.1) ?_
        refine Ev.if_eqB (tgt := 83) dX8_laysEnd_60 (Eq.refl 63) (by decide) (fun c60 => ?_) (fun c60 => ?_)
        · refine Ev.iconst dX8_laysEnd_83 (Eq.refl 84) ?_
          refine Ev.is6 dX8_laysEnd_84 (Eq.refl 86) (by decide) rfl ?_
          exact LOOP fo2 _ 0 _ rfl (by omega) F8.rf.w (fun r c hr hc => by have z1 := hW r c hr hc; have z3 := hW (rwo v j) (rwo v j) rj (by omega); have z5 : 8 * r + c = 8 * rwo v j + rwo v j ↔ r = rwo v j ∧ c = rwo v j := (by omega); rw [hL_rd]; grind)
        · exact absurd c60 fo
      · exact absurd fj c5
  · have f2 : ¬ vF v j = true := fj
    refine Ev.aload_n dX8_laysEnd_0 (Eq.refl 1) rfl ?_
    refine Ev.iload_n dX8_laysEnd_1 (Eq.refl 2) rfl ?_
    refine Ev.cv1E dX8_laysEnd_2 (Eq.refl 5) cw_X8_134 (Nat.le_of_ble_eq_true rfl) (by decide) rfl rfl rfl (Nat.le_of_ble_eq_true rfl) (cF h j F8.rf hjo.1) ?_
    refine Ev.if_neB (tgt := 9) dX8_laysEnd_5 (Eq.refl 8) (by decide) (fun c5 => ?_) (fun c5 => ?_)
    · exact absurd c5 fj
    · exact Ev.vret dX8_laysEnd_8 rfl (⟨rfl, F8.rf, fun r c hr hc => by have z1 := hW r c hr hc; rw [z1]; grind⟩)
