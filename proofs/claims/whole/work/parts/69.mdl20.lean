/-! The model: settle, better -/
theorem rnd_own {h : Hp} {w : Nv} (B : MB h w) (hc : ¬ chg w) : rnd w = w := vQm_own (v := w) (f := fun s => if s < vS w then nQ w (len w) s else 0) (fun s => by
  by_cases l : s < vS w
  · rw [if_pos l]; exact Classical.byContradiction fun z => hc ⟨s, l, z⟩
  · rw [if_neg l]; exact (B.tidy (by omega)).symm)
section ST
variable {h : Hp} {s : St}
theorem m_settle {w : Int} (I : MInv h s) (hw : I32 w) : Ev mX8_settle 6 0 (entL [.ref 0, iv w] 5) [] h (PM (aSettle s w)) := by
  show Ev mX8_settle 6 0 [some (.ref 0), some (iv w), none, none, none] [] h _
  have TAIL : ∀ h, MInv h s → Ev mX8_settle 6 5 [some (.ref 0), some (iv w), none, none, none] [] h (PM (aSettle s w)) := by
    intro h I
    have B := I.B
    have hv := B.vk
    have i0 : I32 0 := ⟨by omega, by omega⟩
    have i1 : I32 1 := ⟨by omega, by omega⟩
    by_cases c : 0 ≤ w ∧ w ≤ 1
    · have cH := q_hung (w := -4) B (by omega)
      rw [GW4] at cH
      by_cases ha : aH (sV s) (hgV (sV s))
      · have ea : aSettle s w = (setl (sV s) w, s) := Prod.ext ((if_pos c).trans (cif_t ha)) rfl
        -- back
        have BK : ∀ (x mi : Int), -1000 ≤ x ∧ x ≤ 1000 → (x ≤ 60 → (if w = 0 then x else mi) = setl (sV s) w) → (60 < x → -4 = setl (sV s) w) → ∀ (m i : Nat) (g : Hp), 124 - i = m → i ≤ 124 → Gk h g ∨ True → g.2.2 = h.2.2 → (∀ j, g.1 1 j = h.1 1 j) → (∀ j, g.1 4 j = h.1 4 j) → g.1 0 2 = h.1 0 2 → g.1 0 6 = h.1 0 6 → (∀ j, j < 124 → g.1 5 j = h.1 2 j) → (∀ j, j < i → g.1 2 j = h.1 2 j) → Ev mX8_settle 6 88 [some (.ref 0), some (iv w), some (iv x), some (iv mi), some (iv (i : Int))] [] g (PM (aSettle s w)) := by
          intro x mi bx h1 h2 m
          induction m using Nat.strongRecOn with
          | ind m ih =>
            intro i g hm hi _ r0 r1 r4 r02 r06 r5 rs
            have hR : MOk g.2.2 := by rw [r0]; exact I.1
            by_cases l : i < 124
            · have e5 := r5 i l
              refine Ev.iload dX8_settle_88 (Eq.refl 90) rfl ?_
              refine Ev.bipush dX8_settle_90 (Eq.refl 92) (by decide) ?_
              refine Ev.icmp_ge (tgt := 115) dX8_settle_92 (Eq.refl 95) (by decide) ⟨by omega, by omega⟩ ⟨by omega, by omega⟩ (fun c92 => ?_) (fun c92 => ?_)
              · omega
              · refine Ev.aload_n dX8_settle_95 (Eq.refl 96) rfl ?_
                refine Ev.getR dX8_settle_96 (Eq.refl 99) fg_X8_13 rfl rfl (rX8_3 hR) ?_
                refine Ev.iload dX8_settle_99 (Eq.refl 101) rfl ?_
                refine Ev.aload_n dX8_settle_101 (Eq.refl 102) rfl ?_
                refine Ev.getR dX8_settle_102 (Eq.refl 105) fg_X8_23 rfl rfl (rX8_7 hR) ?_
                refine Ev.iload dX8_settle_105 (Eq.refl 107) rfl ?_
                refine Ev.iaload dX8_settle_107 (Eq.refl 108) rfl rfl (by omega) (by decide) (by first | with_reducible exact Int.toNat_natCast _ | exact Eq.refl _) ?_
                rw [e5]
                refine Ev.iastore dX8_settle_108 (Eq.refl 109) rfl rfl (by omega) (by decide) (by first | with_reducible exact Int.toNat_natCast _ | exact Eq.refl _) ?_
                refine Ev.ii4 dX8_settle_109 (Eq.refl 112) (by decide) rfl ?_
                refine Ev.goto' (pc' := 88) dX8_settle_112 (by decide) ?_
                exact ih _ (by omega) (i + 1) _ rfl (by omega) (Or.inr trivial) r0 (fun j => by rw [hI_ni (by omega)]; exact r1 j) (fun j => by rw [hI_ni (by omega)]; exact r4 j) (by rw [hI_ni (by omega)]; exact r02) (by rw [hI_ni (by omega)]; exact r06) (fun j hj => by rw [hI_ni (by omega)]; exact r5 j hj) (fun j hj => by rw [hI_rd]; exact (if e : j = i then by rw [e, if_pos ⟨rfl, rfl⟩] else by rw [if_neg (fun z => e z.2)]; exact rs j (by omega)))
            · have e : i = 124 := by omega
              subst e
              have q := gExt (f := g.1 2) (g := h.1 2) rs I.2.1.1
              have FIN : MInv g s := ⟨hR, ⟨q.2, q.1.trans I.2.1.2⟩, ⟨r02.trans I.2.2.1.1, I.2.2.1.2.1, fun k hk => by rw [r1]; exact I.2.2.1.2.2 k hk⟩, I.2.2.2.c r06 r4⟩
              refine Ev.iload dX8_settle_88 (Eq.refl 90) rfl ?_
              refine Ev.bipush dX8_settle_90 (Eq.refl 92) (by decide) ?_
              refine Ev.icmp_ge (tgt := 115) dX8_settle_92 (Eq.refl 95) (by decide) ⟨by omega, by omega⟩ ⟨by omega, by omega⟩ (fun c92 => ?_) (fun c92 => ?_)
              · refine Ev.iload_n dX8_settle_115 (Eq.refl 116) rfl ?_
                refine Ev.bipush dX8_settle_116 (Eq.refl 118) (by decide) ?_
                refine Ev.icmp_le (tgt := 126) dX8_settle_118 (Eq.refl 121) (by decide) ⟨by omega, by omega⟩ ⟨by omega, by omega⟩ (fun c118 => ?_) (fun c118 => ?_)
                · refine Ev.iload_n dX8_settle_126 (Eq.refl 127) rfl ?_
                  refine Ev.if_ne (tgt := 134) dX8_settle_127 (Eq.refl 130) (by decide) ⟨by omega, by omega⟩ (fun c127 => ?_) (fun c127 => ?_)
                  · refine Ev.iload_n dX8_settle_134 (Eq.refl 135) rfl ?_
                    exact Ev.iret dX8_settle_135 rfl ((by rw [ea]; exact ⟨_, rfl, by first | exact h2 (by omega) | (have z := h1 (by omega); rw [if_pos (by omega)] at z; exact z) | (have z := h1 (by omega); rw [if_neg (by omega)] at z; exact z), FIN⟩))
                  · refine Ev.iload_n dX8_settle_130 (Eq.refl 131) rfl ?_
                    refine Ev.goto' (pc' := 135) dX8_settle_131 (by decide) ?_
                    exact Ev.iret dX8_settle_135 rfl ((by rw [ea]; exact ⟨_, rfl, by first | exact h2 (by omega) | (have z := h1 (by omega); rw [if_pos (by omega)] at z; exact z) | (have z := h1 (by omega); rw [if_neg (by omega)] at z; exact z), FIN⟩))
                · refine Ev.bipush dX8_settle_121 (Eq.refl 123) (by decide) ?_
                  refine Ev.goto' (pc' := 135) dX8_settle_123 (by decide) ?_
                  exact Ev.iret dX8_settle_135 rfl ((by rw [ea]; exact ⟨_, rfl, by first | exact h2 (by omega) | (have z := h1 (by omega); rw [if_pos (by omega)] at z; exact z) | (have z := h1 (by omega); rw [if_neg (by omega)] at z; exact z), FIN⟩))
              · omega
        -- behind the rounds
        have END : ∀ (g1 g : Hp) (x : Int) (u : Nv) (l3 l4 : Option Value), Gk g1 g → MB g u → aH u (hgV u) → g1.2.2 = h.2.2 → (∀ j, g1.1 1 j = h.1 1 j) → (∀ j, g1.1 4 j = h.1 4 j) → g1.1 0 2 = h.1 0 2 → g1.1 0 6 = h.1 0 6 → (∀ j, j < 124 → g1.1 5 j = h.1 2 j) → -1000 ≤ x ∧ x ≤ 1000 → (x ≤ 60 → (if w = 0 then x else missV u) = setl (sV s) w) → (60 < x → -4 = setl (sV s) w) → Ev mX8_settle 6 75 [some (.ref 0), some (iv w), some (iv x), l3, l4] [] g (PM (aSettle s w)) := by
          intro g1 g x u l3 l4 hG Bu hau r0 r1 r4 r02 r06 r5 bx h1 h2
          refine Ev.aload_n dX8_settle_75 (Eq.refl 76) rfl ?_
          refine Ev.cv0I dX8_settle_76 (Eq.refl 79) cw_X8_202 (Nat.le_of_ble_eq_true rfl) (by decide) rfl rfl rfl (Nat.le_of_ble_eq_true rfl) (q_lays Bu) (fun x76 g76 hp76 => ?_)
          have M := MS.of Bu hp76 hau
          have hG2 := hG.lk hp76.1
          refine Ev.popV dX8_settle_79 (Eq.refl 80) rfl ?_
          refine Ev.aload_n dX8_settle_80 (Eq.refl 81) rfl ?_
          refine Ev.cv0E dX8_settle_81 (Eq.refl 84) cw_X8_221 (Nat.le_of_ble_eq_true rfl) (by decide) rfl rfl rfl (Nat.le_of_ble_eq_true rfl) (q_missing M) ?_
          refine Ev.is3 dX8_settle_84 (Eq.refl 85) (by decide) rfl ?_
          refine Ev.iconst dX8_settle_85 (Eq.refl 86) ?_
          refine Ev.is4 dX8_settle_86 (Eq.refl 88) (by decide) rfl ?_
          exact BK x _ bx h1 h2 _ 0 _ rfl (by omega) (Or.inr trivial) (hG2.1.trans r0) (fun j => (hG2.2.1 1 (by omega) (by omega) (by omega) (by omega) (by omega) j).trans (r1 j)) (fun j => (hG2.2.1 4 (by omega) (by omega) (by omega) (by omega) (by omega) j).trans (r4 j)) ((hG2.2.2 2 (by omega)).trans r02) ((hG2.2.2 6 (by omega)).trans r06) (fun j hj => (hG2.2.1 5 (by omega) (by omega) (by omega) (by omega) (by omega) j).trans (r5 j hj)) (fun j hj => by omega)
        -- rounds
        have RD : ∀ (g1 : Hp), g1.2.2 = h.2.2 → (∀ j, g1.1 1 j = h.1 1 j) → (∀ j, g1.1 4 j = h.1 4 j) → g1.1 0 2 = h.1 0 2 → g1.1 0 6 = h.1 0 6 → (∀ j, j < 124 → g1.1 5 j = h.1 2 j) → ∀ (m n : Nat) (g : Hp) (l3 l4 : Option Value), 61 - n = m → n ≤ 61 → Gk g1 g → MB g (itr (sV s) n) → (∀ t, t < n → chg (itr (sV s) t)) → Ev mX8_settle 6 56 [some (.ref 0), some (iv w), some (iv (n : Int)), l3, l4] [] g (PM (aSettle s w)) := by
          intro g1 r0 r1 r4 r02 r06 r5 m
          induction m using Nat.strongRecOn with
          | ind m ih =>
            intro n g l3 l4 hm hn hG Bg hc
            by_cases n61 : n ≤ 60
            · have cG := m_goesRound Bg (aH_itr ha n)
              refine Ev.iload_n dX8_settle_56 (Eq.refl 57) rfl ?_
              refine Ev.bipush dX8_settle_57 (Eq.refl 59) (by decide) ?_
              refine Ev.icmp_gt (tgt := 75) dX8_settle_59 (Eq.refl 62) (by decide) ⟨by omega, by omega⟩ ⟨by omega, by omega⟩ (fun c59 => ?_) (fun c59 => ?_)
              · omega
              · refine Ev.aload_n dX8_settle_62 (Eq.refl 63) rfl ?_
                refine Ev.cv0I dX8_settle_63 (Eq.refl 66) cw_X8_206 (Nat.le_of_ble_eq_true rfl) (by decide) rfl rfl rfl (Nat.le_of_ble_eq_true rfl) (cG) (fun x63 g63 hp63 => ?_)
                obtain ⟨hG2, B2, rfl⟩ := hp63
                refine Ev.if_eqB (tgt := 75) dX8_settle_66 (Eq.refl 69) (by decide) (fun c66 => ?_) (fun c66 => ?_)
                · have er := rnd_own Bg c66
                  rw [er] at B2
                  exact END g1 _ n _ _ _ (hG.tr hG2) B2 (aH_itr ha n) r0 r1 r4 r02 r06 r5 (by omega) (fun _ => (setl_i n61 hc c66).symm) (fun z => by omega)
                · refine Ev.ii2 dX8_settle_69 (Eq.refl 72) (by decide) rfl ?_
                  refine Ev.goto' (pc' := 56) dX8_settle_72 (by decide) ?_
                  exact ih _ (by omega) (n + 1) _ _ _ rfl (by omega) (hG.tr hG2) B2 (fun t ht => if e : t = n then by rw [e]; exact c66 else hc t (by omega))
            · have en : n = 61 := by omega
              subst en
              refine Ev.iload_n dX8_settle_56 (Eq.refl 57) rfl ?_
              refine Ev.bipush dX8_settle_57 (Eq.refl 59) (by decide) ?_
              refine Ev.icmp_gt (tgt := 75) dX8_settle_59 (Eq.refl 62) (by decide) ⟨by omega, by omega⟩ ⟨by omega, by omega⟩ (fun c59 => ?_) (fun c59 => ?_)
              · exact END g1 _ (61 : Nat) _ _ _ hG Bg (aH_itr ha 61) r0 r1 r4 r02 r06 r5 (by omega) (fun z => by omega) (fun _ => (cif_t (fun t ht => hc t (by omega))).symm)
              · omega
        -- aside
        have AS : ∀ (g0 : Hp), MInv g0 s → g0.1 2 = h.1 2 → g0.2.2 = h.2.2 → (∀ j, g0.1 1 j = h.1 1 j) → (∀ j, g0.1 4 j = h.1 4 j) → g0.1 0 2 = h.1 0 2 → g0.1 0 6 = h.1 0 6 → ∀ (m i : Nat) (g : Hp) (l3 l4 : Option Value), 124 - i = m → i ≤ 124 → g.2.2 = g0.2.2 → (∀ a, a ≠ 5 → ∀ j, g.1 a j = g0.1 a j) → (∀ j, j < i → g.1 5 j = h.1 2 j) → Ev mX8_settle 6 30 [some (.ref 0), some (iv w), some (iv (i : Int)), l3, l4] [] g (PM (aSettle s w)) := by
          intro g0 I0 q2 q0 q1 q4 q02 q06 m
          induction m using Nat.strongRecOn with
          | ind m ih =>
            intro i g l3 l4 hm hi r0 r1 r5
            have hR : MOk g.2.2 := by rw [r0]; exact I0.1
            by_cases l : i < 124
            · have e2 : g.1 2 i = h.1 2 i := by rw [r1 2 (by omega), q2]
              refine Ev.iload_n dX8_settle_30 (Eq.refl 31) rfl ?_
              refine Ev.bipush dX8_settle_31 (Eq.refl 33) (by decide) ?_
              refine Ev.icmp_ge (tgt := 54) dX8_settle_33 (Eq.refl 36) (by decide) ⟨by omega, by omega⟩ ⟨by omega, by omega⟩ (fun c33 => ?_) (fun c33 => ?_)
              · omega
              · refine Ev.aload_n dX8_settle_36 (Eq.refl 37) rfl ?_
                refine Ev.getR dX8_settle_37 (Eq.refl 40) fg_X8_23 rfl rfl (rX8_7 hR) ?_
                refine Ev.iload_n dX8_settle_40 (Eq.refl 41) rfl ?_
                refine Ev.aload_n dX8_settle_41 (Eq.refl 42) rfl ?_
                refine Ev.getR dX8_settle_42 (Eq.refl 45) fg_X8_13 rfl rfl (rX8_3 hR) ?_
                refine Ev.iload_n dX8_settle_45 (Eq.refl 46) rfl ?_
                refine Ev.iaload dX8_settle_46 (Eq.refl 47) rfl rfl (by omega) (by decide) (by first | with_reducible exact Int.toNat_natCast _ | exact Eq.refl _) ?_
                rw [e2]
                refine Ev.iastore dX8_settle_47 (Eq.refl 48) rfl rfl (by omega) (by decide) (by first | with_reducible exact Int.toNat_natCast _ | exact Eq.refl _) ?_
                refine Ev.ii2 dX8_settle_48 (Eq.refl 51) (by decide) rfl ?_
                refine Ev.goto' (pc' := 30) dX8_settle_51 (by decide) ?_
                exact ih _ (by omega) (i + 1) _ _ _ rfl (by omega) r0 (fun a q j => by rw [hI_ni q]; exact r1 a q j) (fun j hj => by rw [hI_rd]; exact (if e : j = i then by rw [e, if_pos ⟨rfl, rfl⟩] else by rw [if_neg (fun z => e z.2)]; exact r5 j (by omega)))
            · have e : i = 124 := by omega
              subst e
              refine Ev.iload_n dX8_settle_30 (Eq.refl 31) rfl ?_
              refine Ev.bipush dX8_settle_31 (Eq.refl 33) (by decide) ?_
              refine Ev.icmp_ge (tgt := 54) dX8_settle_33 (Eq.refl 36) (by decide) ⟨by omega, by omega⟩ ⟨by omega, by omega⟩ (fun c33 => ?_) (fun c33 => ?_)
              · refine Ev.iconst dX8_settle_54 (Eq.refl 55) ?_
                refine Ev.is2 dX8_settle_55 (Eq.refl 56) (by decide) rfl ?_
                exact RD g (r0.trans q0) (fun j => (r1 1 (by omega) j).trans (q1 j)) (fun j => (r1 4 (by omega) j).trans (q4 j)) ((r1 0 (by omega) 2).trans q02) ((r1 0 (by omega) 6).trans q06) r5 _ 0 _ _ _ rfl (by omega) Gk.rf (I0.B.c r0 (funext fun j => r1 2 (by omega) j)) (fun t ht => by omega)
              · omega
        refine Ev.iload_n dX8_settle_5 (Eq.refl 6) rfl ?_
        refine Ev.iconst dX8_settle_6 (Eq.refl 7) ?_
        refine Ev.iconst dX8_settle_7 (Eq.refl 8) ?_
        refine Ev.cs3E dX8_settle_8 (Eq.refl 11) cw_X8_73 (Nat.le_of_ble_eq_true rfl) (by decide) rfl (Nat.le_of_ble_eq_true rfl) (m_in (by assumption) (by assumption) (by assumption)) ?_
        refine Ev.if_neB (tgt := 16) dX8_settle_11 (Eq.refl 14) (by decide) (fun c11 => ?_) (fun c11 => ?_)
        · refine Ev.aload_n dX8_settle_16 (Eq.refl 17) rfl ?_
          refine Ev.bipush dX8_settle_17 (Eq.refl 19) (by decide) ?_
          refine Ev.cv1I dX8_settle_19 (Eq.refl 22) cw_X8_150 (Nat.le_of_ble_eq_true rfl) (by decide) rfl rfl rfl (Nat.le_of_ble_eq_true rfl) (cH) (fun x19 g19 hp19 => ?_)
          obtain ⟨hF19, rfl, h7⟩ := hp19
          have hK := Lk.rf.f7 hF19
          have I2 := I.k hK.k
          refine Ev.if_neB (tgt := 28) dX8_settle_22 (Eq.refl 25) (by decide) (fun c22 => ?_) (fun c22 => ?_)
          · refine Ev.iconst dX8_settle_28 (Eq.refl 29) ?_
            refine Ev.is2 dX8_settle_29 (Eq.refl 30) (by decide) rfl ?_
            exact AS g19 I2 hK.s hK.1 (hK.k.2.1) (hK.k.2.2.2.1) (hK.k.2.2.2.2.1) (hK.k.2.2.2.2.2) _ 0 _ _ _ rfl (by omega) rfl (fun _ _ _ => rfl) (fun j hj => by omega)
          · exact absurd ha c22
        · exact absurd c c11
      · have ea : aSettle s w = (-2, s) := Prod.ext ((if_pos c).trans (cif_f ha)) rfl
        refine Ev.iload_n dX8_settle_5 (Eq.refl 6) rfl ?_
        refine Ev.iconst dX8_settle_6 (Eq.refl 7) ?_
        refine Ev.iconst dX8_settle_7 (Eq.refl 8) ?_
        refine Ev.cs3E dX8_settle_8 (Eq.refl 11) cw_X8_73 (Nat.le_of_ble_eq_true rfl) (by decide) rfl (Nat.le_of_ble_eq_true rfl) (m_in (by assumption) (by assumption) (by assumption)) ?_
        refine Ev.if_neB (tgt := 16) dX8_settle_11 (Eq.refl 14) (by decide) (fun c11 => ?_) (fun c11 => ?_)
        · refine Ev.aload_n dX8_settle_16 (Eq.refl 17) rfl ?_
          refine Ev.bipush dX8_settle_17 (Eq.refl 19) (by decide) ?_
          refine Ev.cv1I dX8_settle_19 (Eq.refl 22) cw_X8_150 (Nat.le_of_ble_eq_true rfl) (by decide) rfl rfl rfl (Nat.le_of_ble_eq_true rfl) (cH) (fun x19 g19 hp19 => ?_)
          obtain ⟨hF19, rfl, h7⟩ := hp19
          refine Ev.if_neB (tgt := 28) dX8_settle_22 (Eq.refl 25) (by decide) (fun c22 => ?_) (fun c22 => ?_)
          · exact absurd c22 ha
          · refine Ev.bipush dX8_settle_25 (Eq.refl 27) (by decide) ?_
            exact Ev.iret dX8_settle_27 rfl ((by rw [ea]; exact ⟨_, rfl, rfl, I.k (Lk.rf.f7 hF19).k⟩))
        · exact absurd c c11
    · have ea : aSettle s w = (-1, s) := Prod.ext (if_neg c) rfl
      refine Ev.iload_n dX8_settle_5 (Eq.refl 6) rfl ?_
      refine Ev.iconst dX8_settle_6 (Eq.refl 7) ?_
      refine Ev.iconst dX8_settle_7 (Eq.refl 8) ?_
      refine Ev.cs3E dX8_settle_8 (Eq.refl 11) cw_X8_73 (Nat.le_of_ble_eq_true rfl) (by decide) rfl (Nat.le_of_ble_eq_true rfl) (m_in (by assumption) (by assumption) (by assumption)) ?_
      refine Ev.if_neB (tgt := 16) dX8_settle_11 (Eq.refl 14) (by decide) (fun c11 => ?_) (fun c11 => ?_)
      · exact absurd c11 c
      · refine Ev.iconst dX8_settle_14 (Eq.refl 15) ?_
        exact Ev.iret dX8_settle_15 rfl ((by rw [ea]; exact ⟨_, rfl, rfl, I⟩))
  refine Ev.aload_n dX8_settle_0 (Eq.refl 1) rfl ?_
  refine Ev.iconst dX8_settle_1 (Eq.refl 2) ?_
  refine Ev.putI dX8_settle_2 (Eq.refl 5) fp_X8_69 rfl rfl (Or.inl rfl) ?_
  exact TAIL _ (I.k (Mk.rf.w (by omega)))
theorem MInv.g {h g : Hp} {s : St} (I : MInv h s) (hG : Gk h g) (B : MB g (sV s)) : MInv g s := by
  obtain ⟨hR, ⟨ok, hV⟩, hT, hP⟩ := I
  exact ⟨B.1, ⟨B.2.1, B.2.2⟩, ⟨(hG.2.2 2 (by omega)).trans hT.1, hT.2.1, fun k hk => by rw [hG.2.1 1 (by omega) (by omega) (by omega) (by omega) (by omega)]; exact hT.2.2 k hk⟩, hP.c (hG.2.2 6 (by omega)) (hG.2.1 4 (by omega) (by omega) (by omega) (by omega) (by omega))⟩
theorem tS2_b {v : Nv} {k : Nat} {st : Int × Int} (h : -4 ≤ st.2 ∧ st.2 ≤ 1000) (hk : k < 14) : ∀ q, q ≤ 5 → -4 ≤ (tS v k st q).2 ∧ (tS v k st q).2 ≤ 1000
  | 0, _ => h
  | q + 1, hq => by
    have := tS2_b (v := v) h hk q (by omega)
    show -4 ≤ (tQ v k (q + 1) (tS v k st q)).2 ∧ (tQ v k (q + 1) (tS v k st q)).2 ≤ 1000
    unfold tQ
    split
    · show -4 ≤ 10 * (k : Int) + ((q + 1 : Nat) : Int) ∧ 10 * (k : Int) + ((q + 1 : Nat) : Int) ≤ 1000; omega
    · exact this
theorem tAl2_b {v : Nv} : ∀ k, k ≤ 14 → -4 ≤ (tAl v k).2 ∧ (tAl v k).2 ≤ 1000
  | 0, _ => by show -4 ≤ (-4 : Int) ∧ (-4 : Int) ≤ 1000; omega
  | k + 1, hk => by
    have ih := tAl2_b (v := v) k (by omega)
    show -4 ≤ (if vH v k = true then tS v k (tAl v k) 5 else tAl v k).2 ∧ (if vH v k = true then tS v k (tAl v k) 5 else tAl v k).2 ≤ 1000
    split
    · exact tS2_b ih (by omega) 5 (by omega)
    · exact ih
theorem m_better {w : Int} (I : MInv h s) (hw : I32 w) : Ev mX8_better 5 0 (entL [.ref 0, iv w] 8) [] h (PM (aBetter s w)) := by
  show Ev mX8_better 5 0 [some (.ref 0), some (iv w), none, none, none, none, none, none] [] h _
  have TAIL : ∀ h, MInv h s → Ev mX8_better 5 5 [some (.ref 0), some (iv w), none, none, none, none, none, none] [] h (PM (aBetter s w)) := by
    intro h I
    have B := I.B
    have hv := B.vk
    have hS14 := hv.2.1
    have i0 : I32 0 := ⟨by omega, by omega⟩
    have i1 : I32 1 := ⟨by omega, by omega⟩
    by_cases c : 0 ≤ w ∧ w ≤ 1
    · by_cases ha : aH (sV s) (hgV (sV s))
      · have ea : aBetter s w = (if (tAl (sV s) (vS (sV s))).2 = -4 then -4 else if w = 0 then (tAl (sV s) (vS (sV s))).2 else (tAl (sV s) (vS (sV s))).1, s) := Prod.ext ((if_pos c).trans (cif_t ha)) rfl
        have mb := missV_b hv ha
        have OUT : ∀ (m k : Nat) (g : Hp) (l5 l6 l7 : Option Value), vS (sV s) - k = m → k ≤ vS (sV s) → Gk h g → MB g (sV s) → Ev mX8_better 5 37 [some (.ref 0), some (iv w), some (iv (tAl (sV s) k).1), some (iv (tAl (sV s) k).2), some (iv (k : Int)), l5, l6, l7] [] g (PM (aBetter s w)) := by
          intro m
          induction m using Nat.strongRecOn with
          | ind m ih =>
            intro k g l5 l6 l7 hm hk hG Bg
            have hR := Bg.1
            have e1 : g.1 2 1 = (vS (sV s) : Int) := Bg.s1
            have tb1 := tAl_b hv ha k
            have tb2 := tAl2_b (v := sV s) k (by omega)
            by_cases hk2 : k < vS (sV s)
            · have b := hv.2.2.2.1 k hk2
              have q1 : ((54 : Int) + 5 * (k : Int) + 2).toNat = 54 + 5 * k + 2 := by omega
              have FIN : ∀ (g : Hp) (y : Int) (st : Int × Int) (l6 l7 : Option Value), st = tAl (sV s) (k + 1) → Gk h g → MB g (vQ1 (sV s) k y) → Ev mX8_better 5 141 [some (.ref 0), some (iv w), some (iv st.1), some (iv st.2), some (iv (k : Int)), some (iv (vQ (sV s) k)), l6, l7] [] g (PM (aBetter s w)) := by
                intro g y st l6 l7 est hG Bg
                subst est
                have hR := Bg.1
                have B2 := Bg.q1 (k := k) (x := vQ (sV s) k) hk2 (by omega)
                rw [vQ1_2, vQ1_own] at B2
                refine Ev.aload_n dX8_better_141 (Eq.refl 142) rfl ?_
                refine Ev.getR dX8_better_142 (Eq.refl 145) fg_X8_13 rfl rfl (rX8_3 hR) ?_
                refine Ev.bipush dX8_better_145 (Eq.refl 147) (by decide) ?_
                refine Ev.iconst dX8_better_147 (Eq.refl 148) ?_
                refine Ev.iload dX8_better_148 (Eq.refl 150) rfl ?_
                refine Ev.imul dX8_better_150 (Eq.refl 151) ?_
                refine Ev.iadd dX8_better_151 (Eq.refl 152) ?_
                refine Ev.iconst dX8_better_152 (Eq.refl 153) ?_
                refine Ev.iadd dX8_better_153 (Eq.refl 154) ?_
                refine Ev.iload dX8_better_154 (Eq.refl 156) rfl ?_
                refine Ev.iastore dX8_better_156 (Eq.refl 157) rfl rfl (by omega) (by decide) q1 ?_
                refine Ev.ii4 dX8_better_157 (Eq.refl 160) (by decide) rfl ?_
                refine Ev.goto' (pc' := 37) dX8_better_160 (by decide) ?_
                exact ih _ (by omega) (k + 1) _ _ _ _ rfl (by omega) hG.w B2
              have IN : vH (sV s) k = true → ∀ (m2 q : Nat) (g : Hp) (y : Int) (l7 : Option Value), 5 - q = m2 → q ≤ 5 → Gk h g → MB g (vQ1 (sV s) k y) → Ev mX8_better 5 60 [some (.ref 0), some (iv w), some (iv (tS (sV s) k (tAl (sV s) k) q).1), some (iv (tS (sV s) k (tAl (sV s) k) q).2), some (iv (k : Int)), some (iv (vQ (sV s) k)), some (iv ((q : Int) + 1)), l7] [] g (PM (aBetter s w)) := by
                intro hh m2
                induction m2 using Nat.strongRecOn with
                | ind m2 ih2 =>
                  intro q g y l7 hm2 hq hG Bg
                  have hR := Bg.1
                  have ub1 := tS_b (s := k) hv ha tb1 q hq
                  have ub2 := tS2_b (v := sV s) (k := k) tb2 (by omega) q hq
                  by_cases q5 : q < 5
                  · have B2 := Bg.q1 (k := k) (x := (q : Int) + 1) hk2 (by omega)
                    rw [vQ1_2, show ((q : Int) + 1) = ((q + 1 : Nat) : Int) by push_cast; rfl] at B2
                    have hvq : VOk (vQ1 (sV s) k ((q + 1 : Nat) : Int)) := VOk_Q1 hv (by omega)
                    have mq := missV_b hvq (show aH (sV s) (hgV (sV s)) from ha)
                    have cL := q_lays B2
                    have et : missV (vQ1 (sV s) k ((q + 1 : Nat) : Int)) < (tS (sV s) k (tAl (sV s) k) q).1 → tS (sV s) k (tAl (sV s) k) (q + 1) = (missV (vQ1 (sV s) k ((q + 1 : Nat) : Int)), 10 * (k : Int) + ((q + 1 : Nat) : Int)) := fun z => if_pos z
                    have ef : ¬ missV (vQ1 (sV s) k ((q + 1 : Nat) : Int)) < (tS (sV s) k (tAl (sV s) k) q).1 → tS (sV s) k (tAl (sV s) k) (q + 1) = tS (sV s) k (tAl (sV s) k) q := fun z => if_neg z
                    refine Ev.iload dX8_better_60 (Eq.refl 62) rfl ?_
                    refine Ev.bipush dX8_better_62 (Eq.refl 64) (by decide) ?_
                    refine Ev.icmp_ge (tgt := 141) dX8_better_64 (Eq.refl 67) (by decide) ⟨by omega, by omega⟩ ⟨by omega, by omega⟩ (fun c64 => ?_) (fun c64 => ?_)
                    · omega
                    · refine Ev.aload_n dX8_better_67 (Eq.refl 68) rfl ?_
                      refine Ev.iload dX8_better_68 (Eq.refl 70) rfl ?_
                      refine Ev.cv1E dX8_better_70 (Eq.refl 73) cw_X8_137 (Nat.le_of_ble_eq_true rfl) (by decide) rfl rfl rfl (Nat.le_of_ble_eq_true rfl) (q_hangs Bg hk2) ?_
                      refine Ev.if_eqB (tgt := 141) dX8_better_73 (Eq.refl 76) (by decide) (fun c73 => ?_) (fun c73 => ?_)
                      · exact absurd hh c73
                      · refine Ev.aload_n dX8_better_76 (Eq.refl 77) rfl ?_
                        refine Ev.getR dX8_better_77 (Eq.refl 80) fg_X8_13 rfl rfl (rX8_3 hR) ?_
                        refine Ev.bipush dX8_better_80 (Eq.refl 82) (by decide) ?_
                        refine Ev.iconst dX8_better_82 (Eq.refl 83) ?_
                        refine Ev.iload dX8_better_83 (Eq.refl 85) rfl ?_
                        refine Ev.imul dX8_better_85 (Eq.refl 86) ?_
                        refine Ev.iadd dX8_better_86 (Eq.refl 87) ?_
                        refine Ev.iconst dX8_better_87 (Eq.refl 88) ?_
                        refine Ev.iadd dX8_better_88 (Eq.refl 89) ?_
                        refine Ev.iload dX8_better_89 (Eq.refl 91) rfl ?_
                        refine Ev.iastore dX8_better_91 (Eq.refl 92) rfl rfl (by omega) (by decide) q1 ?_
                        refine Ev.aload_n dX8_better_92 (Eq.refl 93) rfl ?_
                        refine Ev.cv0I dX8_better_93 (Eq.refl 96) cw_X8_202 (Nat.le_of_ble_eq_true rfl) (by decide) rfl rfl rfl (Nat.le_of_ble_eq_true rfl) (cL) (fun x93 g93 hp93 => ?_)
                        have M := MS.of B2 hp93 (show aH (sV s) (hgV (sV s)) from ha)
                        have hG2 := hG.w.lk hp93.1
                        refine Ev.popV dX8_better_96 (Eq.refl 97) rfl ?_
                        refine Ev.aload_n dX8_better_97 (Eq.refl 98) rfl ?_
                        refine Ev.cv0E dX8_better_98 (Eq.refl 101) cw_X8_221 (Nat.le_of_ble_eq_true rfl) (by decide) rfl rfl rfl (Nat.le_of_ble_eq_true rfl) (q_missing M) ?_
                        refine Ev.is7 dX8_better_101 (Eq.refl 103) (by decide) rfl ?_
                        refine Ev.iload dX8_better_103 (Eq.refl 105) rfl ?_
                        refine Ev.iload_n dX8_better_105 (Eq.refl 106) rfl ?_
                        refine Ev.icmp_ge (tgt := 120) dX8_better_106 (Eq.refl 109) (by decide) ⟨by omega, by omega⟩ ⟨by omega, by omega⟩ (fun c106 => ?_) (fun c106 => ?_)
                        · have e := ef (by omega)
                          refine Ev.iload_n dX8_better_120 (Eq.refl 121) rfl ?_
                          refine Ev.is3 dX8_better_121 (Eq.refl 122) (by decide) rfl ?_
                          refine Ev.iload dX8_better_122 (Eq.refl 124) rfl ?_
                          refine Ev.iload_n dX8_better_124 (Eq.refl 125) rfl ?_
                          refine Ev.icmp_ge (tgt := 133) dX8_better_125 (Eq.refl 128) (by decide) ⟨by omega, by omega⟩ ⟨by omega, by omega⟩ (fun c125 => ?_) (fun c125 => ?_)
                          · have z2 : ¬ missV (vQ1 (sV s) k ((q + 1 : Nat) : Int)) < (tS (sV s) k (tAl (sV s) k) q).1 := by omega
                            refine Ev.iload_n dX8_better_133 (Eq.refl 134) rfl ?_
                            refine Ev.is2 dX8_better_134 (Eq.refl 135) (by decide) rfl ?_
                            refine Ev.ii6 dX8_better_135 (Eq.refl 138) (by decide) rfl ?_
                            refine Ev.goto' (pc' := 60) dX8_better_138 (by decide) ?_
                            first | omega | (have R := ih2 _ (by omega) (q + 1) _ _ (some (iv (missV (vQ1 (sV s) k ((q + 1 : Nat) : Int))))) rfl (by omega) hG2 M.1; rw [e] at R; exact R)
                          · have z2 : missV (vQ1 (sV s) k ((q + 1 : Nat) : Int)) < (tS (sV s) k (tAl (sV s) k) q).1 := by omega
                            refine Ev.iload dX8_better_128 (Eq.refl 130) rfl ?_
                            refine Ev.goto' (pc' := 134) dX8_better_130 (by decide) ?_
                            refine Ev.is2 dX8_better_134 (Eq.refl 135) (by decide) rfl ?_
                            refine Ev.ii6 dX8_better_135 (Eq.refl 138) (by decide) rfl ?_
                            refine Ev.goto' (pc' := 60) dX8_better_138 (by decide) ?_
                            first | omega | (have R := ih2 _ (by omega) (q + 1) _ _ (some (iv (missV (vQ1 (sV s) k ((q + 1 : Nat) : Int))))) rfl (by omega) hG2 M.1; rw [e] at R; exact R)
                        · have e := et (by omega)
                          refine Ev.bipush dX8_better_109 (Eq.refl 111) (by decide) ?_
                          refine Ev.iload dX8_better_111 (Eq.refl 113) rfl ?_
                          refine Ev.imul dX8_better_113 (Eq.refl 114) ?_
                          refine Ev.iload dX8_better_114 (Eq.refl 116) rfl ?_
                          refine Ev.iadd dX8_better_116 (Eq.refl 117) ?_
                          refine Ev.goto' (pc' := 121) dX8_better_117 (by decide) ?_
                          refine Ev.is3 dX8_better_121 (Eq.refl 122) (by decide) rfl ?_
                          refine Ev.iload dX8_better_122 (Eq.refl 124) rfl ?_
                          refine Ev.iload_n dX8_better_124 (Eq.refl 125) rfl ?_
                          refine Ev.icmp_ge (tgt := 133) dX8_better_125 (Eq.refl 128) (by decide) ⟨by omega, by omega⟩ ⟨by omega, by omega⟩ (fun c125 => ?_) (fun c125 => ?_)
                          · have z2 : ¬ missV (vQ1 (sV s) k ((q + 1 : Nat) : Int)) < (tS (sV s) k (tAl (sV s) k) q).1 := by omega
                            refine Ev.iload_n dX8_better_133 (Eq.refl 134) rfl ?_
                            refine Ev.is2 dX8_better_134 (Eq.refl 135) (by decide) rfl ?_
                            refine Ev.ii6 dX8_better_135 (Eq.refl 138) (by decide) rfl ?_
                            refine Ev.goto' (pc' := 60) dX8_better_138 (by decide) ?_
                            first | omega | (have R := ih2 _ (by omega) (q + 1) _ _ (some (iv (missV (vQ1 (sV s) k ((q + 1 : Nat) : Int))))) rfl (by omega) hG2 M.1; rw [e] at R; exact R)
                          · have z2 : missV (vQ1 (sV s) k ((q + 1 : Nat) : Int)) < (tS (sV s) k (tAl (sV s) k) q).1 := by omega
                            refine Ev.iload dX8_better_128 (Eq.refl 130) rfl ?_
                            refine Ev.goto' (pc' := 134) dX8_better_130 (by decide) ?_
                            refine Ev.is2 dX8_better_134 (Eq.refl 135) (by decide) rfl ?_
                            refine Ev.ii6 dX8_better_135 (Eq.refl 138) (by decide) rfl ?_
                            refine Ev.goto' (pc' := 60) dX8_better_138 (by decide) ?_
                            first | omega | (have R := ih2 _ (by omega) (q + 1) _ _ (some (iv (missV (vQ1 (sV s) k ((q + 1 : Nat) : Int))))) rfl (by omega) hG2 M.1; rw [e] at R; exact R)
                  · have e : q = 5 := by omega
                    subst e
                    refine Ev.iload dX8_better_60 (Eq.refl 62) rfl ?_
                    refine Ev.bipush dX8_better_62 (Eq.refl 64) (by decide) ?_
                    refine Ev.icmp_ge (tgt := 141) dX8_better_64 (Eq.refl 67) (by decide) ⟨by omega, by omega⟩ ⟨by omega, by omega⟩ (fun c64 => ?_) (fun c64 => ?_)
                    · exact FIN _ _ _ _ _ (if_pos hh).symm hG Bg
                    · omega
              by_cases hh : vH (sV s) k = true
              · refine Ev.iload dX8_better_37 (Eq.refl 39) rfl ?_
                refine Ev.aload_n dX8_better_39 (Eq.refl 40) rfl ?_
                refine Ev.getR dX8_better_40 (Eq.refl 43) fg_X8_13 rfl rfl (rX8_3 hR) ?_
                refine Ev.iconst dX8_better_43 (Eq.refl 44) ?_
                refine Ev.iaload dX8_better_44 (Eq.refl 45) rfl rfl (by omega) (by decide) (show (1 : Int).toNat = 1 from rfl) ?_
                rw [e1]
                refine Ev.icmp_ge (tgt := 163) dX8_better_45 (Eq.refl 48) (by decide) ⟨by omega, by omega⟩ ⟨by omega, by omega⟩ (fun c45 => ?_) (fun c45 => ?_)
                · omega
                · refine Ev.aload_n dX8_better_48 (Eq.refl 49) rfl ?_
                  refine Ev.iload dX8_better_49 (Eq.refl 51) rfl ?_
                  refine Ev.iconst dX8_better_51 (Eq.refl 52) ?_
                  refine Ev.cv2E dX8_better_52 (Eq.refl 55) cw_X8_131 (Nat.le_of_ble_eq_true rfl) (by decide) rfl rfl rfl (Nat.le_of_ble_eq_true rfl) (q_ofQ Bg hk2) ?_
                  refine Ev.is5 dX8_better_55 (Eq.refl 57) (by decide) rfl ?_
                  refine Ev.iconst dX8_better_57 (Eq.refl 58) ?_
                  refine Ev.is6 dX8_better_58 (Eq.refl 60) (by decide) rfl ?_
                  exact IN hh _ 0 _ (vQ (sV s) k) _ rfl (by omega) hG (by rw [vQ1_own]; exact Bg)
              · refine Ev.iload dX8_better_37 (Eq.refl 39) rfl ?_
                refine Ev.aload_n dX8_better_39 (Eq.refl 40) rfl ?_
                refine Ev.getR dX8_better_40 (Eq.refl 43) fg_X8_13 rfl rfl (rX8_3 hR) ?_
                refine Ev.iconst dX8_better_43 (Eq.refl 44) ?_
                refine Ev.iaload dX8_better_44 (Eq.refl 45) rfl rfl (by omega) (by decide) (show (1 : Int).toNat = 1 from rfl) ?_
                rw [e1]
                refine Ev.icmp_ge (tgt := 163) dX8_better_45 (Eq.refl 48) (by decide) ⟨by omega, by omega⟩ ⟨by omega, by omega⟩ (fun c45 => ?_) (fun c45 => ?_)
                · omega
                · refine Ev.aload_n dX8_better_48 (Eq.refl 49) rfl ?_
                  refine Ev.iload dX8_better_49 (Eq.refl 51) rfl ?_
                  refine Ev.iconst dX8_better_51 (Eq.refl 52) ?_
                  refine Ev.cv2E dX8_better_52 (Eq.refl 55) cw_X8_131 (Nat.le_of_ble_eq_true rfl) (by decide) rfl rfl rfl (Nat.le_of_ble_eq_true rfl) (q_ofQ Bg hk2) ?_
                  refine Ev.is5 dX8_better_55 (Eq.refl 57) (by decide) rfl ?_
                  refine Ev.iconst dX8_better_57 (Eq.refl 58) ?_
                  refine Ev.is6 dX8_better_58 (Eq.refl 60) (by decide) rfl ?_
                  refine Ev.iload dX8_better_60 (Eq.refl 62) rfl ?_
                  refine Ev.bipush dX8_better_62 (Eq.refl 64) (by decide) ?_
                  refine Ev.icmp_ge (tgt := 141) dX8_better_64 (Eq.refl 67) (by decide) ⟨by omega, by omega⟩ ⟨by omega, by omega⟩ (fun c64 => ?_) (fun c64 => ?_)
                  · omega
                  · refine Ev.aload_n dX8_better_67 (Eq.refl 68) rfl ?_
                    refine Ev.iload dX8_better_68 (Eq.refl 70) rfl ?_
                    refine Ev.cv1E dX8_better_70 (Eq.refl 73) cw_X8_137 (Nat.le_of_ble_eq_true rfl) (by decide) rfl rfl rfl (Nat.le_of_ble_eq_true rfl) (q_hangs Bg hk2) ?_
                    refine Ev.if_eqB (tgt := 141) dX8_better_73 (Eq.refl 76) (by decide) (fun c73 => ?_) (fun c73 => ?_)
                    · exact FIN _ (vQ (sV s) k) (tAl (sV s) k) _ _ (if_neg hh).symm hG (by rw [vQ1_own]; exact Bg)
                    · exact absurd c73 hh
            · have e : k = vS (sV s) := by omega
              subst e
              have FI := I.g hG Bg
              refine Ev.iload dX8_better_37 (Eq.refl 39) rfl ?_
              refine Ev.aload_n dX8_better_39 (Eq.refl 40) rfl ?_
              refine Ev.getR dX8_better_40 (Eq.refl 43) fg_X8_13 rfl rfl (rX8_3 hR) ?_
              refine Ev.iconst dX8_better_43 (Eq.refl 44) ?_
              refine Ev.iaload dX8_better_44 (Eq.refl 45) rfl rfl (by omega) (by decide) (show (1 : Int).toNat = 1 from rfl) ?_
              rw [e1]
              refine Ev.icmp_ge (tgt := 163) dX8_better_45 (Eq.refl 48) (by decide) ⟨by omega, by omega⟩ ⟨by omega, by omega⟩ (fun c45 => ?_) (fun c45 => ?_)
              · refine Ev.iload_n dX8_better_163 (Eq.refl 164) rfl ?_
                refine Ev.bipush dX8_better_164 (Eq.refl 166) (by decide) ?_
                refine Ev.icmp_eq (tgt := 173) dX8_better_166 (Eq.refl 169) (by decide) ⟨by omega, by omega⟩ ⟨by omega, by omega⟩ (fun c166 => ?_) (fun c166 => ?_)
                · refine Ev.iload_n dX8_better_173 (Eq.refl 174) rfl ?_
                  refine Ev.goto' (pc' := 178) dX8_better_174 (by decide) ?_
                  exact Ev.iret dX8_better_178 rfl ((by rw [ea]; exact ⟨_, rfl, by show _ = if _ then _ else _; first | (rw [if_pos (by omega)]; omega) | (rw [if_neg (by omega), if_pos (by omega)]) | (rw [if_neg (by omega), if_neg (by omega)]), FI⟩))
                · refine Ev.iload_n dX8_better_169 (Eq.refl 170) rfl ?_
                  refine Ev.if_ne (tgt := 177) dX8_better_170 (Eq.refl 173) (by decide) ⟨by omega, by omega⟩ (fun c170 => ?_) (fun c170 => ?_)
                  · refine Ev.iload_n dX8_better_177 (Eq.refl 178) rfl ?_
                    exact Ev.iret dX8_better_178 rfl ((by rw [ea]; exact ⟨_, rfl, by show _ = if _ then _ else _; first | (rw [if_pos (by omega)]; omega) | (rw [if_neg (by omega), if_pos (by omega)]) | (rw [if_neg (by omega), if_neg (by omega)]), FI⟩))
                  · refine Ev.iload_n dX8_better_173 (Eq.refl 174) rfl ?_
                    refine Ev.goto' (pc' := 178) dX8_better_174 (by decide) ?_
                    exact Ev.iret dX8_better_178 rfl ((by rw [ea]; exact ⟨_, rfl, by show _ = if _ then _ else _; first | (rw [if_pos (by omega)]; omega) | (rw [if_neg (by omega), if_pos (by omega)]) | (rw [if_neg (by omega), if_neg (by omega)]), FI⟩))
              · omega
        refine Ev.iload_n dX8_better_5 (Eq.refl 6) rfl ?_
        refine Ev.iconst dX8_better_6 (Eq.refl 7) ?_
        refine Ev.iconst dX8_better_7 (Eq.refl 8) ?_
        refine Ev.cs3E dX8_better_8 (Eq.refl 11) cw_X8_73 (Nat.le_of_ble_eq_true rfl) (by decide) rfl (Nat.le_of_ble_eq_true rfl) (m_in (by assumption) (by assumption) (by assumption)) ?_
        refine Ev.if_neB (tgt := 16) dX8_better_11 (Eq.refl 14) (by decide) (fun c11 => ?_) (fun c11 => ?_)
        · refine Ev.aload_n dX8_better_16 (Eq.refl 17) rfl ?_
          refine Ev.cv0I dX8_better_17 (Eq.refl 20) cw_X8_202 (Nat.le_of_ble_eq_true rfl) (by decide) rfl rfl rfl (Nat.le_of_ble_eq_true rfl) (q_lays B) (fun x17 g17 hp17 => ?_)
          have M := MS.of B hp17 ha
          obtain ⟨hK, rfl, h7, _⟩ := hp17
          refine Ev.if_neB (tgt := 26) dX8_better_20 (Eq.refl 23) (by decide) (fun c20 => ?_) (fun c20 => ?_)
          · refine Ev.aload_n dX8_better_26 (Eq.refl 27) rfl ?_
            refine Ev.cv0E dX8_better_27 (Eq.refl 30) cw_X8_221 (Nat.le_of_ble_eq_true rfl) (by decide) rfl rfl rfl (Nat.le_of_ble_eq_true rfl) (q_missing M) ?_
            refine Ev.is2 dX8_better_30 (Eq.refl 31) (by decide) rfl ?_
            refine Ev.bipush dX8_better_31 (Eq.refl 33) (by decide) ?_
            refine Ev.is3 dX8_better_33 (Eq.refl 34) (by decide) rfl ?_
            refine Ev.iconst dX8_better_34 (Eq.refl 35) ?_
            refine Ev.is4 dX8_better_35 (Eq.refl 37) (by decide) rfl ?_
            exact OUT _ 0 _ _ _ _ rfl (by omega) (Gk.rf.lk hK) M.1
          · exact absurd ha c20
        · exact absurd c c11
      · have ea : aBetter s w = (-2, s) := Prod.ext ((if_pos c).trans (cif_f ha)) rfl
        refine Ev.iload_n dX8_better_5 (Eq.refl 6) rfl ?_
        refine Ev.iconst dX8_better_6 (Eq.refl 7) ?_
        refine Ev.iconst dX8_better_7 (Eq.refl 8) ?_
        refine Ev.cs3E dX8_better_8 (Eq.refl 11) cw_X8_73 (Nat.le_of_ble_eq_true rfl) (by decide) rfl (Nat.le_of_ble_eq_true rfl) (m_in (by assumption) (by assumption) (by assumption)) ?_
        refine Ev.if_neB (tgt := 16) dX8_better_11 (Eq.refl 14) (by decide) (fun c11 => ?_) (fun c11 => ?_)
        · refine Ev.aload_n dX8_better_16 (Eq.refl 17) rfl ?_
          refine Ev.cv0I dX8_better_17 (Eq.refl 20) cw_X8_202 (Nat.le_of_ble_eq_true rfl) (by decide) rfl rfl rfl (Nat.le_of_ble_eq_true rfl) (q_lays B) (fun x17 g17 hp17 => ?_)
          obtain ⟨hK, rfl, h7, _⟩ := hp17
          refine Ev.if_neB (tgt := 26) dX8_better_20 (Eq.refl 23) (by decide) (fun c20 => ?_) (fun c20 => ?_)
          · exact absurd c20 ha
          · refine Ev.bipush dX8_better_23 (Eq.refl 25) (by decide) ?_
            exact Ev.iret dX8_better_25 rfl ((by rw [ea]; exact ⟨_, rfl, rfl, I.k hK.k⟩))
        · exact absurd c c11
    · have ea : aBetter s w = (-1, s) := Prod.ext (if_neg c) rfl
      refine Ev.iload_n dX8_better_5 (Eq.refl 6) rfl ?_
      refine Ev.iconst dX8_better_6 (Eq.refl 7) ?_
      refine Ev.iconst dX8_better_7 (Eq.refl 8) ?_
      refine Ev.cs3E dX8_better_8 (Eq.refl 11) cw_X8_73 (Nat.le_of_ble_eq_true rfl) (by decide) rfl (Nat.le_of_ble_eq_true rfl) (m_in (by assumption) (by assumption) (by assumption)) ?_
      refine Ev.if_neB (tgt := 16) dX8_better_11 (Eq.refl 14) (by decide) (fun c11 => ?_) (fun c11 => ?_)
      · exact absurd c11 c
      · refine Ev.iconst dX8_better_14 (Eq.refl 15) ?_
        exact Ev.iret dX8_better_15 rfl ((by rw [ea]; exact ⟨_, rfl, rfl, I⟩))
  refine Ev.aload_n dX8_better_0 (Eq.refl 1) rfl ?_
  refine Ev.iconst dX8_better_1 (Eq.refl 2) ?_
  refine Ev.putI dX8_better_2 (Eq.refl 5) fp_X8_69 rfl rfl (Or.inl rfl) ?_
  exact TAIL _ (I.k (Mk.rf.w (by omega)))
end ST
