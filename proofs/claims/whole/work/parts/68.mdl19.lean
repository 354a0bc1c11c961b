/-! The model: rounds -/
def vQm (v : Nv) (f : Nat → Int) : Nv := (v.1, v.2.1, v.2.2.1, v.2.2.2.1, v.2.2.2.2.1, v.2.2.2.2.2.1, v.2.2.2.2.2.2.1, f, v.2.2.2.2.2.2.2.2.1, v.2.2.2.2.2.2.2.2.2.1, v.2.2.2.2.2.2.2.2.2.2.1, v.2.2.2.2.2.2.2.2.2.2.2)
theorem vQm_1 {v : Nv} {f : Nat → Int} {k : Nat} {x : Int} : vQ1 (vQm v f) k x = vQm v (fun s => if s = k then x else f s) := rfl
theorem vQm_c {v : Nv} {f g : Nat → Int} (h : ∀ s, f s = g s) : vQm v f = vQm v g := by rw [show f = g from funext h]
theorem vQm_own {v : Nv} {f : Nat → Int} (h : ∀ s, f s = vQ v s) : vQm v f = v := nv_ext rfl rfl (fun _ => rfl) (fun _ _ => rfl) (fun _ => rfl) (fun _ => rfl) (fun _ => rfl) h (fun _ => rfl) (fun _ => rfl) rfl rfl
def Gk (h g : Hp) : Prop := g.2.2 = h.2.2 ∧ (∀ i, i ≠ 0 → i ≠ 2 → i ≠ 7 → i ≠ 9 → i ≠ 11 → ∀ j, g.1 i j = h.1 i j) ∧ ∀ k, k ≠ 14 → g.1 0 k = h.1 0 k
section GK
variable {h g f : Hp} {v : Nv}
theorem Gk.rf : Gk h h := ⟨rfl, fun _ _ _ _ _ _ _ => rfl, fun _ _ => rfl⟩
theorem Gk.tr (a : Gk h g) (b : Gk g f) : Gk h f := ⟨b.1.trans a.1, fun i h1 h2 h3 h4 h5 j => (b.2.1 i h1 h2 h3 h4 h5 j).trans (a.2.1 i h1 h2 h3 h4 h5 j), fun k q => (b.2.2 k q).trans (a.2.2 k q)⟩
theorem Gk.lk (a : Gk h g) (b : Lk g f) : Gk h f := a.tr ⟨b.1, fun i h1 _ h3 h4 h5 j => b.2.1 i h1 h3 h4 h5 j, b.2.2⟩
theorem Gk.f7 (a : Gk h g) (b : Fr (fun i => i = 7) g f) : Gk h f := a.lk (Lk.rf.f7 b)
theorem Gk.w {k : Nat} {x : Int} (a : Gk h g) : Gk h (hI g 2 k x) := ⟨a.1, fun i h1 h2 h3 h4 h5 j => by rw [hI_ni h2]; exact a.2.1 i h1 h2 h3 h4 h5 j, fun k q => by rw [hI_ni (by omega)]; exact a.2.2 k q⟩
theorem MB.q1 {k : Nat} {x : Int} (B : MB h v) (hk : k < vS v) (hx : 1 ≤ x ∧ x ≤ 5) : MB (hI h 2 (54 + 5 * k + 2) x) (vQ1 v k x) := by
  obtain ⟨hR, ok, rfl⟩ := B
  have q := gQ1 (f := h.1 2) (k := k) ok hk hx
  exact ⟨hR, by rw [hI_up]; exact q.2, by rw [hI_up]; exact q.1⟩
theorem MB.tidy (B : MB h v) {s : Nat} (hs : vS v ≤ s) : vQ v s = 0 := by
  have e1 := B.s1
  obtain ⟨hR, ok, rfl⟩ := B
  exact if_neg (by omega)
theorem LY.c {u : Nv} (y : LY h u) (e : g.2.1 = h.2.1) (e2 : ∀ j, g.1 11 j = h.1 11 j) : LY g u := ⟨by rw [e]; exact y.1, fun j a hj ha => ⟨by rw [e]; exact (y.2 j a hj ha).1, by rw [e2]; exact (y.2 j a hj ha).2⟩⟩
theorem m_goesRound (B : MB h v) (ha : aH v (hgV v)) : Ev mX8_goesRound 5 0 (entL [.ref 0] 6) [] h (PI (fun x h' => Gk h h' ∧ MB h' (rnd v) ∧ x = bi (chg v))) := by
  show Ev mX8_goesRound 5 0 [some (.ref 0), none, none, none, none, none] [] h _
  have hv := B.vk
  have hS14 := hv.2.1
  have td := fun s => B.tidy (s := s)
  have LOOP : ∀ (g0 : Hp), Gk h g0 → LY g0 v → ∀ (m k : Nat) (g : Hp) (y : Int) (l3 l4 l5 : Option Value), vS v - k = m → k ≤ vS v → Gk h g → LY g v → MB g (vQm v (fun s => if s < k then nQ v (len v) s else vQ v s)) → y = bi (∃ t, t < k ∧ nQ v (len v) t ≠ vQ v t) → Ev mX8_goesRound 5 9 [some (.ref 0), some (iv y), some (iv (k : Int)), l3, l4, l5] [] g (PI (fun x h' => Gk h h' ∧ MB h' (rnd v) ∧ x = bi (chg v))) := by
    intro g0 _ _ m
    induction m using Nat.strongRecOn with
    | ind m ih =>
      intro k g y l3 l4 l5 hm hk hG hy Bg ey
      have hR := Bg.1
      have e1 : g.1 2 1 = (vS v : Int) := Bg.s1
      have y01 := bi01 (∃ t, t < k ∧ nQ v (len v) t ≠ vQ v t)
      rw [← ey] at y01
      by_cases hk2 : k < vS v
      · have b := hv.2.2.2.1 k hk2
        have hl := len_b hv ha hk2
        have cA : Ev mX8_isAsked 2 0 (entL [.ref 0, iv (k : Int)] 2) [] g (PE (bi (vH v k = true ∧ 0 < vW v k)) g) := by have z := q_asked (k := k) Bg hk2; exact z
        have cL := q_lenG (v := v) (k := k) Bg hv ha hy rfl rfl hk2 hk2
        have cW : Ev mX8_of 0 0 (entL [.ref 0, iv (k : Int), iv 3] 3) [] g (PE (vW v k) g) := by have z := q_ofW (k := k) Bg hk2; exact z
        have cQ : Ev mX8_of 0 0 (entL [.ref 0, iv (k : Int), iv 2] 3) [] g (PE (vQ v k) g) := by
          have := q_ofQ (k := k) Bg hk2
          rw [show vQ (vQm v (fun s => if s < k then nQ v (len v) s else vQ v s)) k = vQ v k from if_neg (by omega)] at this
          exact this
        by_cases z : vH v k = true ∧ 0 < vW v k
        · obtain ⟨N, hN⟩ : ∃ N, N = nQ v (len v) k := ⟨_, rfl⟩
          have bN := nQ_b hv (f := len v) hk2
          rw [← hN] at bN
          have eN : N = if 100 * vW v k < len v k then (if vQ v k < 5 then vQ v k + 1 else 5) else if len v k < 100 * vW v k then (if 1 < vQ v k then vQ v k - 1 else 1) else vQ v k := by rw [hN]; exact if_pos ⟨z.1, by omega⟩
          have B2 : MB (hI g 2 (54 + 5 * k + 2) N) (vQm v (fun s => if s < k + 1 then nQ v (len v) s else vQ v s)) := by
            have q := Bg.q1 (k := k) (x := N) hk2 bN
            rw [vQm_1] at q
            rw [vQm_c (g := fun s => if s < k + 1 then nQ v (len v) s else vQ v s) (fun s => by
              by_cases e : s = k
              · rw [if_pos e, e, if_pos (by omega), hN]
              · rw [if_neg e]
                by_cases l : s < k
                · rw [if_pos l, if_pos (by omega)]
                · rw [if_neg l, if_neg (by omega)])] at q
            exact q
          have q1 : ((54 : Int) + 5 * (k : Int) + 2).toNat = 54 + 5 * k + 2 := by omega
          have NX : ∀ (x yy : Int) (u3 u4 u5 : Option Value), x = N → yy = bi (∃ t, t < k + 1 ∧ nQ v (len v) t ≠ vQ v t) → Ev mX8_goesRound 5 9 [some (.ref 0), some (iv yy), some (iv ((k : Int) + 1)), u3, u4, u5] [] (hI g 2 (54 + 5 * k + 2) x) (PI (fun x h' => Gk h h' ∧ MB h' (rnd v) ∧ x = bi (chg v))) := fun x yy u3 u4 u5 ex eyy => by
            subst ex
            exact ih _ (by omega) (k + 1) _ yy u3 u4 u5 rfl (by omega) hG.w (hy.c rfl (fun j => hI_ni (by omega))) B2 eyy
          refine Ev.iload_n dX8_goesRound_9 (Eq.refl 10) rfl ?_
          refine Ev.aload_n dX8_goesRound_10 (Eq.refl 11) rfl ?_
          refine Ev.getR dX8_goesRound_11 (Eq.refl 14) fg_X8_13 rfl rfl (rX8_3 hR) ?_
          refine Ev.iconst dX8_goesRound_14 (Eq.refl 15) ?_
          refine Ev.iaload dX8_goesRound_15 (Eq.refl 16) rfl rfl (by omega) (by decide) (show (1 : Int).toNat = 1 from rfl) ?_
          rw [e1]
          refine Ev.icmp_ge (tgt := 127) dX8_goesRound_16 (Eq.refl 19) (by decide) ⟨by omega, by omega⟩ ⟨by omega, by omega⟩ (fun c16 => ?_) (fun c16 => ?_)
          · omega
          · refine Ev.aload_n dX8_goesRound_19 (Eq.refl 20) rfl ?_
            refine Ev.iload_n dX8_goesRound_20 (Eq.refl 21) rfl ?_
            refine Ev.cv1E dX8_goesRound_21 (Eq.refl 24) cw_X8_178 (Nat.le_of_ble_eq_true rfl) (by decide) rfl rfl rfl (Nat.le_of_ble_eq_true rfl) (cA) ?_
            refine Ev.if_eqB (tgt := 121) dX8_goesRound_24 (Eq.refl 27) (by decide) (fun c24 => ?_) (fun c24 => ?_)
            · exact absurd z c24
            · refine Ev.aload_n dX8_goesRound_27 (Eq.refl 28) rfl ?_
              refine Ev.iload_n dX8_goesRound_28 (Eq.refl 29) rfl ?_
              refine Ev.cv1E dX8_goesRound_29 (Eq.refl 32) cw_X8_174 (Nat.le_of_ble_eq_true rfl) (by decide) rfl rfl rfl (Nat.le_of_ble_eq_true rfl) (cL) ?_
              refine Ev.bipush dX8_goesRound_32 (Eq.refl 34) (by decide) ?_
              refine Ev.aload_n dX8_goesRound_34 (Eq.refl 35) rfl ?_
              refine Ev.iload_n dX8_goesRound_35 (Eq.refl 36) rfl ?_
              refine Ev.iconst dX8_goesRound_36 (Eq.refl 37) ?_
              refine Ev.cv2E dX8_goesRound_37 (Eq.refl 40) cw_X8_131 (Nat.le_of_ble_eq_true rfl) (by decide) rfl rfl rfl (Nat.le_of_ble_eq_true rfl) (cW) ?_
              refine Ev.imul dX8_goesRound_40 (Eq.refl 41) ?_
              refine Ev.isub dX8_goesRound_41 (Eq.refl 42) ?_
              refine Ev.is3 dX8_goesRound_42 (Eq.refl 43) (by decide) rfl ?_
              refine Ev.aload_n dX8_goesRound_43 (Eq.refl 44) rfl ?_
              refine Ev.iload_n dX8_goesRound_44 (Eq.refl 45) rfl ?_
              refine Ev.iconst dX8_goesRound_45 (Eq.refl 46) ?_
              refine Ev.cv2E dX8_goesRound_46 (Eq.refl 49) cw_X8_131 (Nat.le_of_ble_eq_true rfl) (by decide) rfl rfl rfl (Nat.le_of_ble_eq_true rfl) (cQ) ?_
              refine Ev.is4 dX8_goesRound_49 (Eq.refl 51) (by decide) rfl ?_
              refine Ev.iload_n dX8_goesRound_51 (Eq.refl 52) rfl ?_
              refine Ev.if_le (tgt := 68) dX8_goesRound_52 (Eq.refl 55) (by decide) ⟨by omega, by omega⟩ (fun c52 => ?_) (fun c52 => ?_)
              · refine Ev.iload_n dX8_goesRound_68 (Eq.refl 69) rfl ?_
                refine Ev.if_ge (tgt := 85) dX8_goesRound_69 (Eq.refl 72) (by decide) ⟨by omega, by omega⟩ (fun c69 => ?_) (fun c69 => ?_)
                · refine Ev.iload dX8_goesRound_85 (Eq.refl 87) rfl ?_
                  refine Ev.is5 dX8_goesRound_87 (Eq.refl 89) (by decide) rfl ?_
                  refine Ev.iload_n dX8_goesRound_89 (Eq.refl 90) rfl ?_
                  refine Ev.if_ne (tgt := 100) dX8_goesRound_90 (Eq.refl 93) (by decide) ⟨by omega, by omega⟩ (fun c90 => ?_) (fun c90 => ?_)
                  · refine Ev.iconst dX8_goesRound_100 (Eq.refl 101) ?_
                    refine Ev.goto' (pc' := 105) dX8_goesRound_101 (by decide) ?_
                    refine Ev.is1 dX8_goesRound_105 (Eq.refl 106) (by decide) rfl ?_
                    refine Ev.aload_n dX8_goesRound_106 (Eq.refl 107) rfl ?_
                    refine Ev.getR dX8_goesRound_107 (Eq.refl 110) fg_X8_13 rfl rfl (rX8_3 hR) ?_
                    refine Ev.bipush dX8_goesRound_110 (Eq.refl 112) (by decide) ?_
                    refine Ev.iconst dX8_goesRound_112 (Eq.refl 113) ?_
                    refine Ev.iload_n dX8_goesRound_113 (Eq.refl 114) rfl ?_
                    refine Ev.imul dX8_goesRound_114 (Eq.refl 115) ?_
                    refine Ev.iadd dX8_goesRound_115 (Eq.refl 116) ?_
                    refine Ev.iconst dX8_goesRound_116 (Eq.refl 117) ?_
                    refine Ev.iadd dX8_goesRound_117 (Eq.refl 118) ?_
                    refine Ev.iload dX8_goesRound_118 (Eq.refl 120) rfl ?_
                    refine Ev.iastore dX8_goesRound_120 (Eq.refl 121) rfl rfl (by omega) (by decide) q1 ?_
                    refine Ev.ii2 dX8_goesRound_121 (Eq.refl 124) (by decide) rfl ?_
                    refine Ev.goto' (pc' := 9) dX8_goesRound_124 (by decide) ?_
                    refine NX _ _ _ _ _ (by rw [eN]; (repeat' split); all_goals omega) ?_
                    first | exact ex_u ey c90 | exact ex_t (show nQ v (len v) k ≠ vQ v k by rw [← hN, eN]; (repeat' split); all_goals omega) | (rw [show (0 : Int) = y by omega]; exact ex_s ey (fun w => w (by rw [← hN, eN]; (repeat' split); all_goals omega)))
                  · refine Ev.iload dX8_goesRound_93 (Eq.refl 95) rfl ?_
                    refine Ev.iload dX8_goesRound_95 (Eq.refl 97) rfl ?_
                    refine Ev.icmp_eq (tgt := 104) dX8_goesRound_97 (Eq.refl 100) (by decide) ⟨by omega, by omega⟩ ⟨by omega, by omega⟩ (fun c97 => ?_) (fun c97 => ?_)
                    · refine Ev.iconst dX8_goesRound_104 (Eq.refl 105) ?_
                      refine Ev.is1 dX8_goesRound_105 (Eq.refl 106) (by decide) rfl ?_
                      refine Ev.aload_n dX8_goesRound_106 (Eq.refl 107) rfl ?_
                      refine Ev.getR dX8_goesRound_107 (Eq.refl 110) fg_X8_13 rfl rfl (rX8_3 hR) ?_
                      refine Ev.bipush dX8_goesRound_110 (Eq.refl 112) (by decide) ?_
                      refine Ev.iconst dX8_goesRound_112 (Eq.refl 113) ?_
                      refine Ev.iload_n dX8_goesRound_113 (Eq.refl 114) rfl ?_
                      refine Ev.imul dX8_goesRound_114 (Eq.refl 115) ?_
                      refine Ev.iadd dX8_goesRound_115 (Eq.refl 116) ?_
                      refine Ev.iconst dX8_goesRound_116 (Eq.refl 117) ?_
                      refine Ev.iadd dX8_goesRound_117 (Eq.refl 118) ?_
                      refine Ev.iload dX8_goesRound_118 (Eq.refl 120) rfl ?_
                      refine Ev.iastore dX8_goesRound_120 (Eq.refl 121) rfl rfl (by omega) (by decide) q1 ?_
                      refine Ev.ii2 dX8_goesRound_121 (Eq.refl 124) (by decide) rfl ?_
                      refine Ev.goto' (pc' := 9) dX8_goesRound_124 (by decide) ?_
                      refine NX _ _ _ _ _ (by rw [eN]; (repeat' split); all_goals omega) ?_
                      first | exact ex_u ey c90 | exact ex_t (show nQ v (len v) k ≠ vQ v k by rw [← hN, eN]; (repeat' split); all_goals omega) | (rw [show (0 : Int) = y by omega]; exact ex_s ey (fun w => w (by rw [← hN, eN]; (repeat' split); all_goals omega)))
                    · refine Ev.iconst dX8_goesRound_100 (Eq.refl 101) ?_
                      refine Ev.goto' (pc' := 105) dX8_goesRound_101 (by decide) ?_
                      refine Ev.is1 dX8_goesRound_105 (Eq.refl 106) (by decide) rfl ?_
                      refine Ev.aload_n dX8_goesRound_106 (Eq.refl 107) rfl ?_
                      refine Ev.getR dX8_goesRound_107 (Eq.refl 110) fg_X8_13 rfl rfl (rX8_3 hR) ?_
                      refine Ev.bipush dX8_goesRound_110 (Eq.refl 112) (by decide) ?_
                      refine Ev.iconst dX8_goesRound_112 (Eq.refl 113) ?_
                      refine Ev.iload_n dX8_goesRound_113 (Eq.refl 114) rfl ?_
                      refine Ev.imul dX8_goesRound_114 (Eq.refl 115) ?_
                      refine Ev.iadd dX8_goesRound_115 (Eq.refl 116) ?_
                      refine Ev.iconst dX8_goesRound_116 (Eq.refl 117) ?_
                      refine Ev.iadd dX8_goesRound_117 (Eq.refl 118) ?_
                      refine Ev.iload dX8_goesRound_118 (Eq.refl 120) rfl ?_
                      refine Ev.iastore dX8_goesRound_120 (Eq.refl 121) rfl rfl (by omega) (by decide) q1 ?_
                      refine Ev.ii2 dX8_goesRound_121 (Eq.refl 124) (by decide) rfl ?_
                      refine Ev.goto' (pc' := 9) dX8_goesRound_124 (by decide) ?_
                      refine NX _ _ _ _ _ (by rw [eN]; (repeat' split); all_goals omega) ?_
                      first | exact ex_u ey c90 | exact ex_t (show nQ v (len v) k ≠ vQ v k by rw [← hN, eN]; (repeat' split); all_goals omega) | (rw [show (0 : Int) = y by omega]; exact ex_s ey (fun w => w (by rw [← hN, eN]; (repeat' split); all_goals omega)))
                · refine Ev.iload dX8_goesRound_72 (Eq.refl 74) rfl ?_
                  refine Ev.iconst dX8_goesRound_74 (Eq.refl 75) ?_
                  refine Ev.icmp_le (tgt := 85) dX8_goesRound_75 (Eq.refl 78) (by decide) ⟨by omega, by omega⟩ ⟨by omega, by omega⟩ (fun c75 => ?_) (fun c75 => ?_)
                  · refine Ev.iload dX8_goesRound_85 (Eq.refl 87) rfl ?_
                    refine Ev.is5 dX8_goesRound_87 (Eq.refl 89) (by decide) rfl ?_
                    refine Ev.iload_n dX8_goesRound_89 (Eq.refl 90) rfl ?_
                    refine Ev.if_ne (tgt := 100) dX8_goesRound_90 (Eq.refl 93) (by decide) ⟨by omega, by omega⟩ (fun c90 => ?_) (fun c90 => ?_)
                    · refine Ev.iconst dX8_goesRound_100 (Eq.refl 101) ?_
                      refine Ev.goto' (pc' := 105) dX8_goesRound_101 (by decide) ?_
                      refine Ev.is1 dX8_goesRound_105 (Eq.refl 106) (by decide) rfl ?_
                      refine Ev.aload_n dX8_goesRound_106 (Eq.refl 107) rfl ?_
                      refine Ev.getR dX8_goesRound_107 (Eq.refl 110) fg_X8_13 rfl rfl (rX8_3 hR) ?_
                      refine Ev.bipush dX8_goesRound_110 (Eq.refl 112) (by decide) ?_
                      refine Ev.iconst dX8_goesRound_112 (Eq.refl 113) ?_
                      refine Ev.iload_n dX8_goesRound_113 (Eq.refl 114) rfl ?_
                      refine Ev.imul dX8_goesRound_114 (Eq.refl 115) ?_
                      refine Ev.iadd dX8_goesRound_115 (Eq.refl 116) ?_
                      refine Ev.iconst dX8_goesRound_116 (Eq.refl 117) ?_
                      refine Ev.iadd dX8_goesRound_117 (Eq.refl 118) ?_
                      refine Ev.iload dX8_goesRound_118 (Eq.refl 120) rfl ?_
                      refine Ev.iastore dX8_goesRound_120 (Eq.refl 121) rfl rfl (by omega) (by decide) q1 ?_
                      refine Ev.ii2 dX8_goesRound_121 (Eq.refl 124) (by decide) rfl ?_
                      refine Ev.goto' (pc' := 9) dX8_goesRound_124 (by decide) ?_
                      refine NX _ _ _ _ _ (by rw [eN]; (repeat' split); all_goals omega) ?_
                      first | exact ex_u ey c90 | exact ex_t (show nQ v (len v) k ≠ vQ v k by rw [← hN, eN]; (repeat' split); all_goals omega) | (rw [show (0 : Int) = y by omega]; exact ex_s ey (fun w => w (by rw [← hN, eN]; (repeat' split); all_goals omega)))
                    · refine Ev.iload dX8_goesRound_93 (Eq.refl 95) rfl ?_
                      refine Ev.iload dX8_goesRound_95 (Eq.refl 97) rfl ?_
                      refine Ev.icmp_eq (tgt := 104) dX8_goesRound_97 (Eq.refl 100) (by decide) ⟨by omega, by omega⟩ ⟨by omega, by omega⟩ (fun c97 => ?_) (fun c97 => ?_)
                      · refine Ev.iconst dX8_goesRound_104 (Eq.refl 105) ?_
                        refine Ev.is1 dX8_goesRound_105 (Eq.refl 106) (by decide) rfl ?_
                        refine Ev.aload_n dX8_goesRound_106 (Eq.refl 107) rfl ?_
                        refine Ev.getR dX8_goesRound_107 (Eq.refl 110) fg_X8_13 rfl rfl (rX8_3 hR) ?_
                        refine Ev.bipush dX8_goesRound_110 (Eq.refl 112) (by decide) ?_
                        refine Ev.iconst dX8_goesRound_112 (Eq.refl 113) ?_
                        refine Ev.iload_n dX8_goesRound_113 (Eq.refl 114) rfl ?_
                        refine Ev.imul dX8_goesRound_114 (Eq.refl 115) ?_
                        refine Ev.iadd dX8_goesRound_115 (Eq.refl 116) ?_
                        refine Ev.iconst dX8_goesRound_116 (Eq.refl 117) ?_
                        refine Ev.iadd dX8_goesRound_117 (Eq.refl 118) ?_
                        refine Ev.iload dX8_goesRound_118 (Eq.refl 120) rfl ?_
                        refine Ev.iastore dX8_goesRound_120 (Eq.refl 121) rfl rfl (by omega) (by decide) q1 ?_
                        refine Ev.ii2 dX8_goesRound_121 (Eq.refl 124) (by decide) rfl ?_
                        refine Ev.goto' (pc' := 9) dX8_goesRound_124 (by decide) ?_
                        refine NX _ _ _ _ _ (by rw [eN]; (repeat' split); all_goals omega) ?_
                        first | exact ex_u ey c90 | exact ex_t (show nQ v (len v) k ≠ vQ v k by rw [← hN, eN]; (repeat' split); all_goals omega) | (rw [show (0 : Int) = y by omega]; exact ex_s ey (fun w => w (by rw [← hN, eN]; (repeat' split); all_goals omega)))
                      · refine Ev.iconst dX8_goesRound_100 (Eq.refl 101) ?_
                        refine Ev.goto' (pc' := 105) dX8_goesRound_101 (by decide) ?_
                        refine Ev.is1 dX8_goesRound_105 (Eq.refl 106) (by decide) rfl ?_
                        refine Ev.aload_n dX8_goesRound_106 (Eq.refl 107) rfl ?_
                        refine Ev.getR dX8_goesRound_107 (Eq.refl 110) fg_X8_13 rfl rfl (rX8_3 hR) ?_
                        refine Ev.bipush dX8_goesRound_110 (Eq.refl 112) (by decide) ?_
                        refine Ev.iconst dX8_goesRound_112 (Eq.refl 113) ?_
                        refine Ev.iload_n dX8_goesRound_113 (Eq.refl 114) rfl ?_
                        refine Ev.imul dX8_goesRound_114 (Eq.refl 115) ?_
                        refine Ev.iadd dX8_goesRound_115 (Eq.refl 116) ?_
                        refine Ev.iconst dX8_goesRound_116 (Eq.refl 117) ?_
                        refine Ev.iadd dX8_goesRound_117 (Eq.refl 118) ?_
                        refine Ev.iload dX8_goesRound_118 (Eq.refl 120) rfl ?_
                        refine Ev.iastore dX8_goesRound_120 (Eq.refl 121) rfl rfl (by omega) (by decide) q1 ?_
                        refine Ev.ii2 dX8_goesRound_121 (Eq.refl 124) (by decide) rfl ?_
                        refine Ev.goto' (pc' := 9) dX8_goesRound_124 (by decide) ?_
                        refine NX _ _ _ _ _ (by rw [eN]; (repeat' split); all_goals omega) ?_
                        first | exact ex_u ey c90 | exact ex_t (show nQ v (len v) k ≠ vQ v k by rw [← hN, eN]; (repeat' split); all_goals omega) | (rw [show (0 : Int) = y by omega]; exact ex_s ey (fun w => w (by rw [← hN, eN]; (repeat' split); all_goals omega)))
                  · refine Ev.iload dX8_goesRound_78 (Eq.refl 80) rfl ?_
                    refine Ev.iconst dX8_goesRound_80 (Eq.refl 81) ?_
                    refine Ev.isub dX8_goesRound_81 (Eq.refl 82) ?_
                    refine Ev.goto' (pc' := 87) dX8_goesRound_82 (by decide) ?_
                    refine Ev.is5 dX8_goesRound_87 (Eq.refl 89) (by decide) rfl ?_
                    refine Ev.iload_n dX8_goesRound_89 (Eq.refl 90) rfl ?_
                    refine Ev.if_ne (tgt := 100) dX8_goesRound_90 (Eq.refl 93) (by decide) ⟨by omega, by omega⟩ (fun c90 => ?_) (fun c90 => ?_)
                    · refine Ev.iconst dX8_goesRound_100 (Eq.refl 101) ?_
                      refine Ev.goto' (pc' := 105) dX8_goesRound_101 (by decide) ?_
                      refine Ev.is1 dX8_goesRound_105 (Eq.refl 106) (by decide) rfl ?_
                      refine Ev.aload_n dX8_goesRound_106 (Eq.refl 107) rfl ?_
                      refine Ev.getR dX8_goesRound_107 (Eq.refl 110) fg_X8_13 rfl rfl (rX8_3 hR) ?_
                      refine Ev.bipush dX8_goesRound_110 (Eq.refl 112) (by decide) ?_
                      refine Ev.iconst dX8_goesRound_112 (Eq.refl 113) ?_
                      refine Ev.iload_n dX8_goesRound_113 (Eq.refl 114) rfl ?_
                      refine Ev.imul dX8_goesRound_114 (Eq.refl 115) ?_
                      refine Ev.iadd dX8_goesRound_115 (Eq.refl 116) ?_
                      refine Ev.iconst dX8_goesRound_116 (Eq.refl 117) ?_
                      refine Ev.iadd dX8_goesRound_117 (Eq.refl 118) ?_
                      refine Ev.iload dX8_goesRound_118 (Eq.refl 120) rfl ?_
                      refine Ev.iastore dX8_goesRound_120 (Eq.refl 121) rfl rfl (by omega) (by decide) q1 ?_
                      refine Ev.ii2 dX8_goesRound_121 (Eq.refl 124) (by decide) rfl ?_
                      refine Ev.goto' (pc' := 9) dX8_goesRound_124 (by decide) ?_
                      refine NX _ _ _ _ _ (by rw [eN]; (repeat' split); all_goals omega) ?_
                      first | exact ex_u ey c90 | exact ex_t (show nQ v (len v) k ≠ vQ v k by rw [← hN, eN]; (repeat' split); all_goals omega) | (rw [show (0 : Int) = y by omega]; exact ex_s ey (fun w => w (by rw [← hN, eN]; (repeat' split); all_goals omega)))
                    · refine Ev.iload dX8_goesRound_93 (Eq.refl 95) rfl ?_
                      refine Ev.iload dX8_goesRound_95 (Eq.refl 97) rfl ?_
                      refine Ev.icmp_eq (tgt := 104) dX8_goesRound_97 (Eq.refl 100) (by decide) ⟨by omega, by omega⟩ ⟨by omega, by omega⟩ (fun c97 => ?_) (fun c97 => ?_)
                      · refine Ev.iconst dX8_goesRound_104 (Eq.refl 105) ?_
                        refine Ev.is1 dX8_goesRound_105 (Eq.refl 106) (by decide) rfl ?_
                        refine Ev.aload_n dX8_goesRound_106 (Eq.refl 107) rfl ?_
                        refine Ev.getR dX8_goesRound_107 (Eq.refl 110) fg_X8_13 rfl rfl (rX8_3 hR) ?_
                        refine Ev.bipush dX8_goesRound_110 (Eq.refl 112) (by decide) ?_
                        refine Ev.iconst dX8_goesRound_112 (Eq.refl 113) ?_
                        refine Ev.iload_n dX8_goesRound_113 (Eq.refl 114) rfl ?_
                        refine Ev.imul dX8_goesRound_114 (Eq.refl 115) ?_
                        refine Ev.iadd dX8_goesRound_115 (Eq.refl 116) ?_
                        refine Ev.iconst dX8_goesRound_116 (Eq.refl 117) ?_
                        refine Ev.iadd dX8_goesRound_117 (Eq.refl 118) ?_
                        refine Ev.iload dX8_goesRound_118 (Eq.refl 120) rfl ?_
                        refine Ev.iastore dX8_goesRound_120 (Eq.refl 121) rfl rfl (by omega) (by decide) q1 ?_
                        refine Ev.ii2 dX8_goesRound_121 (Eq.refl 124) (by decide) rfl ?_
                        refine Ev.goto' (pc' := 9) dX8_goesRound_124 (by decide) ?_
                        refine NX _ _ _ _ _ (by rw [eN]; (repeat' split); all_goals omega) ?_
                        first | exact ex_u ey c90 | exact ex_t (show nQ v (len v) k ≠ vQ v k by rw [← hN, eN]; (repeat' split); all_goals omega) | (rw [show (0 : Int) = y by omega]; exact ex_s ey (fun w => w (by rw [← hN, eN]; (repeat' split); all_goals omega)))
                      · refine Ev.iconst dX8_goesRound_100 (Eq.refl 101) ?_
                        refine Ev.goto' (pc' := 105) dX8_goesRound_101 (by decide) ?_
                        refine Ev.is1 dX8_goesRound_105 (Eq.refl 106) (by decide) rfl ?_
                        refine Ev.aload_n dX8_goesRound_106 (Eq.refl 107) rfl ?_
                        refine Ev.getR dX8_goesRound_107 (Eq.refl 110) fg_X8_13 rfl rfl (rX8_3 hR) ?_
                        refine Ev.bipush dX8_goesRound_110 (Eq.refl 112) (by decide) ?_
                        refine Ev.iconst dX8_goesRound_112 (Eq.refl 113) ?_
                        refine Ev.iload_n dX8_goesRound_113 (Eq.refl 114) rfl ?_
                        refine Ev.imul dX8_goesRound_114 (Eq.refl 115) ?_
                        refine Ev.iadd dX8_goesRound_115 (Eq.refl 116) ?_
                        refine Ev.iconst dX8_goesRound_116 (Eq.refl 117) ?_
                        refine Ev.iadd dX8_goesRound_117 (Eq.refl 118) ?_
                        refine Ev.iload dX8_goesRound_118 (Eq.refl 120) rfl ?_
                        refine Ev.iastore dX8_goesRound_120 (Eq.refl 121) rfl rfl (by omega) (by decide) q1 ?_
                        refine Ev.ii2 dX8_goesRound_121 (Eq.refl 124) (by decide) rfl ?_
                        refine Ev.goto' (pc' := 9) dX8_goesRound_124 (by decide) ?_
                        refine NX _ _ _ _ _ (by rw [eN]; (repeat' split); all_goals omega) ?_
                        first | exact ex_u ey c90 | exact ex_t (show nQ v (len v) k ≠ vQ v k by rw [← hN, eN]; (repeat' split); all_goals omega) | (rw [show (0 : Int) = y by omega]; exact ex_s ey (fun w => w (by rw [← hN, eN]; (repeat' split); all_goals omega)))
              · refine Ev.iload dX8_goesRound_55 (Eq.refl 57) rfl ?_
                refine Ev.iconst dX8_goesRound_57 (Eq.refl 58) ?_
                refine Ev.icmp_ge (tgt := 68) dX8_goesRound_58 (Eq.refl 61) (by decide) ⟨by omega, by omega⟩ ⟨by omega, by omega⟩ (fun c58 => ?_) (fun c58 => ?_)
                · refine Ev.iload_n dX8_goesRound_68 (Eq.refl 69) rfl ?_
                  refine Ev.if_ge (tgt := 85) dX8_goesRound_69 (Eq.refl 72) (by decide) ⟨by omega, by omega⟩ (fun c69 => ?_) (fun c69 => ?_)
                  · refine Ev.iload dX8_goesRound_85 (Eq.refl 87) rfl ?_
                    refine Ev.is5 dX8_goesRound_87 (Eq.refl 89) (by decide) rfl ?_
                    refine Ev.iload_n dX8_goesRound_89 (Eq.refl 90) rfl ?_
                    refine Ev.if_ne (tgt := 100) dX8_goesRound_90 (Eq.refl 93) (by decide) ⟨by omega, by omega⟩ (fun c90 => ?_) (fun c90 => ?_)
                    · refine Ev.iconst dX8_goesRound_100 (Eq.refl 101) ?_
                      refine Ev.goto' (pc' := 105) dX8_goesRound_101 (by decide) ?_
                      refine Ev.is1 dX8_goesRound_105 (Eq.refl 106) (by decide) rfl ?_
                      refine Ev.aload_n dX8_goesRound_106 (Eq.refl 107) rfl ?_
                      refine Ev.getR dX8_goesRound_107 (Eq.refl 110) fg_X8_13 rfl rfl (rX8_3 hR) ?_
                      refine Ev.bipush dX8_goesRound_110 (Eq.refl 112) (by decide) ?_
                      refine Ev.iconst dX8_goesRound_112 (Eq.refl 113) ?_
                      refine Ev.iload_n dX8_goesRound_113 (Eq.refl 114) rfl ?_
                      refine Ev.imul dX8_goesRound_114 (Eq.refl 115) ?_
                      refine Ev.iadd dX8_goesRound_115 (Eq.refl 116) ?_
                      refine Ev.iconst dX8_goesRound_116 (Eq.refl 117) ?_
                      refine Ev.iadd dX8_goesRound_117 (Eq.refl 118) ?_
                      refine Ev.iload dX8_goesRound_118 (Eq.refl 120) rfl ?_
                      refine Ev.iastore dX8_goesRound_120 (Eq.refl 121) rfl rfl (by omega) (by decide) q1 ?_
                      refine Ev.ii2 dX8_goesRound_121 (Eq.refl 124) (by decide) rfl ?_
                      refine Ev.goto' (pc' := 9) dX8_goesRound_124 (by decide) ?_
                      refine NX _ _ _ _ _ (by rw [eN]; (repeat' split); all_goals omega) ?_
                      first | exact ex_u ey c90 | exact ex_t (show nQ v (len v) k ≠ vQ v k by rw [← hN, eN]; (repeat' split); all_goals omega) | (rw [show (0 : Int) = y by omega]; exact ex_s ey (fun w => w (by rw [← hN, eN]; (repeat' split); all_goals omega)))
                    · refine Ev.iload dX8_goesRound_93 (Eq.refl 95) rfl ?_
                      refine Ev.iload dX8_goesRound_95 (Eq.refl 97) rfl ?_
                      refine Ev.icmp_eq (tgt := 104) dX8_goesRound_97 (Eq.refl 100) (by decide) ⟨by omega, by omega⟩ ⟨by omega, by omega⟩ (fun c97 => ?_) (fun c97 => ?_)
                      · refine Ev.iconst dX8_goesRound_104 (Eq.refl 105) ?_
                        refine Ev.is1 dX8_goesRound_105 (Eq.refl 106) (by decide) rfl ?_
                        refine Ev.aload_n dX8_goesRound_106 (Eq.refl 107) rfl ?_
                        refine Ev.getR dX8_goesRound_107 (Eq.refl 110) fg_X8_13 rfl rfl (rX8_3 hR) ?_
                        refine Ev.bipush dX8_goesRound_110 (Eq.refl 112) (by decide) ?_
                        refine Ev.iconst dX8_goesRound_112 (Eq.refl 113) ?_
                        refine Ev.iload_n dX8_goesRound_113 (Eq.refl 114) rfl ?_
                        refine Ev.imul dX8_goesRound_114 (Eq.refl 115) ?_
                        refine Ev.iadd dX8_goesRound_115 (Eq.refl 116) ?_
                        refine Ev.iconst dX8_goesRound_116 (Eq.refl 117) ?_
                        refine Ev.iadd dX8_goesRound_117 (Eq.refl 118) ?_
                        refine Ev.iload dX8_goesRound_118 (Eq.refl 120) rfl ?_
                        refine Ev.iastore dX8_goesRound_120 (Eq.refl 121) rfl rfl (by omega) (by decide) q1 ?_
                        refine Ev.ii2 dX8_goesRound_121 (Eq.refl 124) (by decide) rfl ?_
                        refine Ev.goto' (pc' := 9) dX8_goesRound_124 (by decide) ?_
                        refine NX _ _ _ _ _ (by rw [eN]; (repeat' split); all_goals omega) ?_
                        first | exact ex_u ey c90 | exact ex_t (show nQ v (len v) k ≠ vQ v k by rw [← hN, eN]; (repeat' split); all_goals omega) | (rw [show (0 : Int) = y by omega]; exact ex_s ey (fun w => w (by rw [← hN, eN]; (repeat' split); all_goals omega)))
                      · refine Ev.iconst dX8_goesRound_100 (Eq.refl 101) ?_
                        refine Ev.goto' (pc' := 105) dX8_goesRound_101 (by decide) ?_
                        refine Ev.is1 dX8_goesRound_105 (Eq.refl 106) (by decide) rfl ?_
                        refine Ev.aload_n dX8_goesRound_106 (Eq.refl 107) rfl ?_
                        refine Ev.getR dX8_goesRound_107 (Eq.refl 110) fg_X8_13 rfl rfl (rX8_3 hR) ?_
                        refine Ev.bipush dX8_goesRound_110 (Eq.refl 112) (by decide) ?_
                        refine Ev.iconst dX8_goesRound_112 (Eq.refl 113) ?_
                        refine Ev.iload_n dX8_goesRound_113 (Eq.refl 114) rfl ?_
                        refine Ev.imul dX8_goesRound_114 (Eq.refl 115) ?_
                        refine Ev.iadd dX8_goesRound_115 (Eq.refl 116) ?_
                        refine Ev.iconst dX8_goesRound_116 (Eq.refl 117) ?_
                        refine Ev.iadd dX8_goesRound_117 (Eq.refl 118) ?_
                        refine Ev.iload dX8_goesRound_118 (Eq.refl 120) rfl ?_
                        refine Ev.iastore dX8_goesRound_120 (Eq.refl 121) rfl rfl (by omega) (by decide) q1 ?_
                        refine Ev.ii2 dX8_goesRound_121 (Eq.refl 124) (by decide) rfl ?_
                        refine Ev.goto' (pc' := 9) dX8_goesRound_124 (by decide) ?_
                        refine NX _ _ _ _ _ (by rw [eN]; (repeat' split); all_goals omega) ?_
                        first | exact ex_u ey c90 | exact ex_t (show nQ v (len v) k ≠ vQ v k by rw [← hN, eN]; (repeat' split); all_goals omega) | (rw [show (0 : Int) = y by omega]; exact ex_s ey (fun w => w (by rw [← hN, eN]; (repeat' split); all_goals omega)))
                  · refine Ev.iload dX8_goesRound_72 (Eq.refl 74) rfl ?_
                    refine Ev.iconst dX8_goesRound_74 (Eq.refl 75) ?_
                    refine Ev.icmp_le (tgt := 85) dX8_goesRound_75 (Eq.refl 78) (by decide) ⟨by omega, by omega⟩ ⟨by omega, by omega⟩ (fun c75 => ?_) (fun c75 => ?_)
                    · refine Ev.iload dX8_goesRound_85 (Eq.refl 87) rfl ?_
                      refine Ev.is5 dX8_goesRound_87 (Eq.refl 89) (by decide) rfl ?_
                      refine Ev.iload_n dX8_goesRound_89 (Eq.refl 90) rfl ?_
                      refine Ev.if_ne (tgt := 100) dX8_goesRound_90 (Eq.refl 93) (by decide) ⟨by omega, by omega⟩ (fun c90 => ?_) (fun c90 => ?_)
                      · refine Ev.iconst dX8_goesRound_100 (Eq.refl 101) ?_
                        refine Ev.goto' (pc' := 105) dX8_goesRound_101 (by decide) ?_
                        refine Ev.is1 dX8_goesRound_105 (Eq.refl 106) (by decide) rfl ?_
                        refine Ev.aload_n dX8_goesRound_106 (Eq.refl 107) rfl ?_
                        refine Ev.getR dX8_goesRound_107 (Eq.refl 110) fg_X8_13 rfl rfl (rX8_3 hR) ?_
                        refine Ev.bipush dX8_goesRound_110 (Eq.refl 112) (by decide) ?_
                        refine Ev.iconst dX8_goesRound_112 (Eq.refl 113) ?_
                        refine Ev.iload_n dX8_goesRound_113 (Eq.refl 114) rfl ?_
                        refine Ev.imul dX8_goesRound_114 (Eq.refl 115) ?_
                        refine Ev.iadd dX8_goesRound_115 (Eq.refl 116) ?_
                        refine Ev.iconst dX8_goesRound_116 (Eq.refl 117) ?_
                        refine Ev.iadd dX8_goesRound_117 (Eq.refl 118) ?_
                        refine Ev.iload dX8_goesRound_118 (Eq.refl 120) rfl ?_
                        refine Ev.iastore dX8_goesRound_120 (Eq.refl 121) rfl rfl (by omega) (by decide) q1 ?_
                        refine Ev.ii2 dX8_goesRound_121 (Eq.refl 124) (by decide) rfl ?_
                        refine Ev.goto' (pc' := 9) dX8_goesRound_124 (by decide) ?_
                        refine NX _ _ _ _ _ (by rw [eN]; (repeat' split); all_goals omega) ?_
                        first | exact ex_u ey c90 | exact ex_t (show nQ v (len v) k ≠ vQ v k by rw [← hN, eN]; (repeat' split); all_goals omega) | (rw [show (0 : Int) = y by omega]; exact ex_s ey (fun w => w (by rw [← hN, eN]; (repeat' split); all_goals omega)))
                      · refine Ev.iload dX8_goesRound_93 (Eq.refl 95) rfl ?_
                        refine Ev.iload dX8_goesRound_95 (Eq.refl 97) rfl ?_
                        refine Ev.icmp_eq (tgt := 104) dX8_goesRound_97 (Eq.refl 100) (by decide) ⟨by omega, by omega⟩ ⟨by omega, by omega⟩ (fun c97 => ?_) (fun c97 => ?_)
                        · refine Ev.iconst dX8_goesRound_104 (Eq.refl 105) ?_
                          refine Ev.is1 dX8_goesRound_105 (Eq.refl 106) (by decide) rfl ?_
                          refine Ev.aload_n dX8_goesRound_106 (Eq.refl 107) rfl ?_
                          refine Ev.getR dX8_goesRound_107 (Eq.refl 110) fg_X8_13 rfl rfl (rX8_3 hR) ?_
                          refine Ev.bipush dX8_goesRound_110 (Eq.refl 112) (by decide) ?_
                          refine Ev.iconst dX8_goesRound_112 (Eq.refl 113) ?_
                          refine Ev.iload_n dX8_goesRound_113 (Eq.refl 114) rfl ?_
                          refine Ev.imul dX8_goesRound_114 (Eq.refl 115) ?_
                          refine Ev.iadd dX8_goesRound_115 (Eq.refl 116) ?_
                          refine Ev.iconst dX8_goesRound_116 (Eq.refl 117) ?_
                          refine Ev.iadd dX8_goesRound_117 (Eq.refl 118) ?_
                          refine Ev.iload dX8_goesRound_118 (Eq.refl 120) rfl ?_
                          refine Ev.iastore dX8_goesRound_120 (Eq.refl 121) rfl rfl (by omega) (by decide) q1 ?_
                          refine Ev.ii2 dX8_goesRound_121 (Eq.refl 124) (by decide) rfl ?_
                          refine Ev.goto' (pc' := 9) dX8_goesRound_124 (by decide) ?_
                          refine NX _ _ _ _ _ (by rw [eN]; (repeat' split); all_goals omega) ?_
                          first | exact ex_u ey c90 | exact ex_t (show nQ v (len v) k ≠ vQ v k by rw [← hN, eN]; (repeat' split); all_goals omega) | (rw [show (0 : Int) = y by omega]; exact ex_s ey (fun w => w (by rw [← hN, eN]; (repeat' split); all_goals omega)))
                        · refine Ev.iconst dX8_goesRound_100 (Eq.refl 101) ?_
                          refine Ev.goto' (pc' := 105) dX8_goesRound_101 (by decide) ?_
                          refine Ev.is1 dX8_goesRound_105 (Eq.refl 106) (by decide) rfl ?_
                          refine Ev.aload_n dX8_goesRound_106 (Eq.refl 107) rfl ?_
                          refine Ev.getR dX8_goesRound_107 (Eq.refl 110) fg_X8_13 rfl rfl (rX8_3 hR) ?_
                          refine Ev.bipush dX8_goesRound_110 (Eq.refl 112) (by decide) ?_
                          refine Ev.iconst dX8_goesRound_112 (Eq.refl 113) ?_
                          refine Ev.iload_n dX8_goesRound_113 (Eq.refl 114) rfl ?_
                          refine Ev.imul dX8_goesRound_114 (Eq.refl 115) ?_
                          refine Ev.iadd dX8_goesRound_115 (Eq.refl 116) ?_
                          refine Ev.iconst dX8_goesRound_116 (Eq.refl 117) ?_
                          refine Ev.iadd dX8_goesRound_117 (Eq.refl 118) ?_
                          refine Ev.iload dX8_goesRound_118 (Eq.refl 120) rfl ?_
                          refine Ev.iastore dX8_goesRound_120 (Eq.refl 121) rfl rfl (by omega) (by decide) q1 ?_
                          refine Ev.ii2 dX8_goesRound_121 (Eq.refl 124) (by decide) rfl ?_
                          refine Ev.goto' (pc' := 9) dX8_goesRound_124 (by decide) ?_
                          refine NX _ _ _ _ _ (by rw [eN]; (repeat' split); all_goals omega) ?_
                          first | exact ex_u ey c90 | exact ex_t (show nQ v (len v) k ≠ vQ v k by rw [← hN, eN]; (repeat' split); all_goals omega) | (rw [show (0 : Int) = y by omega]; exact ex_s ey (fun w => w (by rw [← hN, eN]; (repeat' split); all_goals omega)))
                    · refine Ev.iload dX8_goesRound_78 (Eq.refl 80) rfl ?_
                      refine Ev.iconst dX8_goesRound_80 (Eq.refl 81) ?_
                      refine Ev.isub dX8_goesRound_81 (Eq.refl 82) ?_
                      refine Ev.goto' (pc' := 87) dX8_goesRound_82 (by decide) ?_
                      refine Ev.is5 dX8_goesRound_87 (Eq.refl 89) (by decide) rfl ?_
                      refine Ev.iload_n dX8_goesRound_89 (Eq.refl 90) rfl ?_
                      refine Ev.if_ne (tgt := 100) dX8_goesRound_90 (Eq.refl 93) (by decide) ⟨by omega, by omega⟩ (fun c90 => ?_) (fun c90 => ?_)
                      · refine Ev.iconst dX8_goesRound_100 (Eq.refl 101) ?_
                        refine Ev.goto' (pc' := 105) dX8_goesRound_101 (by decide) ?_
                        refine Ev.is1 dX8_goesRound_105 (Eq.refl 106) (by decide) rfl ?_
                        refine Ev.aload_n dX8_goesRound_106 (Eq.refl 107) rfl ?_
                        refine Ev.getR dX8_goesRound_107 (Eq.refl 110) fg_X8_13 rfl rfl (rX8_3 hR) ?_
                        refine Ev.bipush dX8_goesRound_110 (Eq.refl 112) (by decide) ?_
                        refine Ev.iconst dX8_goesRound_112 (Eq.refl 113) ?_
                        refine Ev.iload_n dX8_goesRound_113 (Eq.refl 114) rfl ?_
                        refine Ev.imul dX8_goesRound_114 (Eq.refl 115) ?_
                        refine Ev.iadd dX8_goesRound_115 (Eq.refl 116) ?_
                        refine Ev.iconst dX8_goesRound_116 (Eq.refl 117) ?_
                        refine Ev.iadd dX8_goesRound_117 (Eq.refl 118) ?_
                        refine Ev.iload dX8_goesRound_118 (Eq.refl 120) rfl ?_
                        refine Ev.iastore dX8_goesRound_120 (Eq.refl 121) rfl rfl (by omega) (by decide) q1 ?_
                        refine Ev.ii2 dX8_goesRound_121 (Eq.refl 124) (by decide) rfl ?_
                        refine Ev.goto' (pc' := 9) dX8_goesRound_124 (by decide) ?_
                        refine NX _ _ _ _ _ (by rw [eN]; (repeat' split); all_goals omega) ?_
                        first | exact ex_u ey c90 | exact ex_t (show nQ v (len v) k ≠ vQ v k by rw [← hN, eN]; (repeat' split); all_goals omega) | (rw [show (0 : Int) = y by omega]; exact ex_s ey (fun w => w (by rw [← hN, eN]; (repeat' split); all_goals omega)))
                      · refine Ev.iload dX8_goesRound_93 (Eq.refl 95) rfl ?_
                        refine Ev.iload dX8_goesRound_95 (Eq.refl 97) rfl ?_
                        refine Ev.icmp_eq (tgt := 104) dX8_goesRound_97 (Eq.refl 100) (by decide) ⟨by omega, by omega⟩ ⟨by omega, by omega⟩ (fun c97 => ?_) (fun c97 => ?_)
                        · refine Ev.iconst dX8_goesRound_104 (Eq.refl 105) ?_
                          refine Ev.is1 dX8_goesRound_105 (Eq.refl 106) (by decide) rfl ?_
                          refine Ev.aload_n dX8_goesRound_106 (Eq.refl 107) rfl ?_
                          refine Ev.getR dX8_goesRound_107 (Eq.refl 110) fg_X8_13 rfl rfl (rX8_3 hR) ?_
                          refine Ev.bipush dX8_goesRound_110 (Eq.refl 112) (by decide) ?_
                          refine Ev.iconst dX8_goesRound_112 (Eq.refl 113) ?_
                          refine Ev.iload_n dX8_goesRound_113 (Eq.refl 114) rfl ?_
                          refine Ev.imul dX8_goesRound_114 (Eq.refl 115) ?_
                          refine Ev.iadd dX8_goesRound_115 (Eq.refl 116) ?_
                          refine Ev.iconst dX8_goesRound_116 (Eq.refl 117) ?_
                          refine Ev.iadd dX8_goesRound_117 (Eq.refl 118) ?_
                          refine Ev.iload dX8_goesRound_118 (Eq.refl 120) rfl ?_
                          refine Ev.iastore dX8_goesRound_120 (Eq.refl 121) rfl rfl (by omega) (by decide) q1 ?_
                          refine Ev.ii2 dX8_goesRound_121 (Eq.refl 124) (by decide) rfl ?_
                          refine Ev.goto' (pc' := 9) dX8_goesRound_124 (by decide) ?_
                          refine NX _ _ _ _ _ (by rw [eN]; (repeat' split); all_goals omega) ?_
                          first | exact ex_u ey c90 | exact ex_t (show nQ v (len v) k ≠ vQ v k by rw [← hN, eN]; (repeat' split); all_goals omega) | (rw [show (0 : Int) = y by omega]; exact ex_s ey (fun w => w (by rw [← hN, eN]; (repeat' split); all_goals omega)))
                        · refine Ev.iconst dX8_goesRound_100 (Eq.refl 101) ?_
                          refine Ev.goto' (pc' := 105) dX8_goesRound_101 (by decide) ?_
                          refine Ev.is1 dX8_goesRound_105 (Eq.refl 106) (by decide) rfl ?_
                          refine Ev.aload_n dX8_goesRound_106 (Eq.refl 107) rfl ?_
                          refine Ev.getR dX8_goesRound_107 (Eq.refl 110) fg_X8_13 rfl rfl (rX8_3 hR) ?_
                          refine Ev.bipush dX8_goesRound_110 (Eq.refl 112) (by decide) ?_
                          refine Ev.iconst dX8_goesRound_112 (Eq.refl 113) ?_
                          refine Ev.iload_n dX8_goesRound_113 (Eq.refl 114) rfl ?_
                          refine Ev.imul dX8_goesRound_114 (Eq.refl 115) ?_
                          refine Ev.iadd dX8_goesRound_115 (Eq.refl 116) ?_
                          refine Ev.iconst dX8_goesRound_116 (Eq.refl 117) ?_
                          refine Ev.iadd dX8_goesRound_117 (Eq.refl 118) ?_
                          refine Ev.iload dX8_goesRound_118 (Eq.refl 120) rfl ?_
                          refine Ev.iastore dX8_goesRound_120 (Eq.refl 121) rfl rfl (by omega) (by decide) q1 ?_
                          refine Ev.ii2 dX8_goesRound_121 (Eq.refl 124) (by decide) rfl ?_
                          refine Ev.goto' (pc' := 9) dX8_goesRound_124 (by decide) ?_
                          refine NX _ _ _ _ _ (by rw [eN]; (repeat' split); all_goals omega) ?_
                          first | exact ex_u ey c90 | exact ex_t (show nQ v (len v) k ≠ vQ v k by rw [← hN, eN]; (repeat' split); all_goals omega) | (rw [show (0 : Int) = y by omega]; exact ex_s ey (fun w => w (by rw [← hN, eN]; (repeat' split); all_goals omega)))
                · refine Ev.iload dX8_goesRound_61 (Eq.refl 63) rfl ?_
                  refine Ev.iconst dX8_goesRound_63 (Eq.refl 64) ?_
                  refine Ev.iadd dX8_goesRound_64 (Eq.refl 65) ?_
                  refine Ev.goto' (pc' := 87) dX8_goesRound_65 (by decide) ?_
                  refine Ev.is5 dX8_goesRound_87 (Eq.refl 89) (by decide) rfl ?_
                  refine Ev.iload_n dX8_goesRound_89 (Eq.refl 90) rfl ?_
                  refine Ev.if_ne (tgt := 100) dX8_goesRound_90 (Eq.refl 93) (by decide) ⟨by omega, by omega⟩ (fun c90 => ?_) (fun c90 => ?_)
                  · refine Ev.iconst dX8_goesRound_100 (Eq.refl 101) ?_
                    refine Ev.goto' (pc' := 105) dX8_goesRound_101 (by decide) ?_
                    refine Ev.is1 dX8_goesRound_105 (Eq.refl 106) (by decide) rfl ?_
                    refine Ev.aload_n dX8_goesRound_106 (Eq.refl 107) rfl ?_
                    refine Ev.getR dX8_goesRound_107 (Eq.refl 110) fg_X8_13 rfl rfl (rX8_3 hR) ?_
                    refine Ev.bipush dX8_goesRound_110 (Eq.refl 112) (by decide) ?_
                    refine Ev.iconst dX8_goesRound_112 (Eq.refl 113) ?_
                    refine Ev.iload_n dX8_goesRound_113 (Eq.refl 114) rfl ?_
                    refine Ev.imul dX8_goesRound_114 (Eq.refl 115) ?_
                    refine Ev.iadd dX8_goesRound_115 (Eq.refl 116) ?_
                    refine Ev.iconst dX8_goesRound_116 (Eq.refl 117) ?_
                    refine Ev.iadd dX8_goesRound_117 (Eq.refl 118) ?_
                    refine Ev.iload dX8_goesRound_118 (Eq.refl 120) rfl ?_
                    refine Ev.iastore dX8_goesRound_120 (Eq.refl 121) rfl rfl (by omega) (by decide) q1 ?_
                    refine Ev.ii2 dX8_goesRound_121 (Eq.refl 124) (by decide) rfl ?_
                    refine Ev.goto' (pc' := 9) dX8_goesRound_124 (by decide) ?_
                    refine NX _ _ _ _ _ (by rw [eN]; (repeat' split); all_goals omega) ?_
                    first | exact ex_u ey c90 | exact ex_t (show nQ v (len v) k ≠ vQ v k by rw [← hN, eN]; (repeat' split); all_goals omega) | (rw [show (0 : Int) = y by omega]; exact ex_s ey (fun w => w (by rw [← hN, eN]; (repeat' split); all_goals omega)))
                  · refine Ev.iload dX8_goesRound_93 (Eq.refl 95) rfl ?_
                    refine Ev.iload dX8_goesRound_95 (Eq.refl 97) rfl ?_
                    refine Ev.icmp_eq (tgt := 104) dX8_goesRound_97 (Eq.refl 100) (by decide) ⟨by omega, by omega⟩ ⟨by omega, by omega⟩ (fun c97 => ?_) (fun c97 => ?_)
                    · refine Ev.iconst dX8_goesRound_104 (Eq.refl 105) ?_
                      refine Ev.is1 dX8_goesRound_105 (Eq.refl 106) (by decide) rfl ?_
                      refine Ev.aload_n dX8_goesRound_106 (Eq.refl 107) rfl ?_
                      refine Ev.getR dX8_goesRound_107 (Eq.refl 110) fg_X8_13 rfl rfl (rX8_3 hR) ?_
                      refine Ev.bipush dX8_goesRound_110 (Eq.refl 112) (by decide) ?_
                      refine Ev.iconst dX8_goesRound_112 (Eq.refl 113) ?_
                      refine Ev.iload_n dX8_goesRound_113 (Eq.refl 114) rfl ?_
                      refine Ev.imul dX8_goesRound_114 (Eq.refl 115) ?_
                      refine Ev.iadd dX8_goesRound_115 (Eq.refl 116) ?_
                      refine Ev.iconst dX8_goesRound_116 (Eq.refl 117) ?_
                      refine Ev.iadd dX8_goesRound_117 (Eq.refl 118) ?_
                      refine Ev.iload dX8_goesRound_118 (Eq.refl 120) rfl ?_
                      refine Ev.iastore dX8_goesRound_120 (Eq.refl 121) rfl rfl (by omega) (by decide) q1 ?_
                      refine Ev.ii2 dX8_goesRound_121 (Eq.refl 124) (by decide) rfl ?_
                      refine Ev.goto' (pc' := 9) dX8_goesRound_124 (by decide) ?_
                      refine NX _ _ _ _ _ (by rw [eN]; (repeat' split); all_goals omega) ?_
                      first | exact ex_u ey c90 | exact ex_t (show nQ v (len v) k ≠ vQ v k by rw [← hN, eN]; (repeat' split); all_goals omega) | (rw [show (0 : Int) = y by omega]; exact ex_s ey (fun w => w (by rw [← hN, eN]; (repeat' split); all_goals omega)))
                    · refine Ev.iconst dX8_goesRound_100 (Eq.refl 101) ?_
                      refine Ev.goto' (pc' := 105) dX8_goesRound_101 (by decide) ?_
                      refine Ev.is1 dX8_goesRound_105 (Eq.refl 106) (by decide) rfl ?_
                      refine Ev.aload_n dX8_goesRound_106 (Eq.refl 107) rfl ?_
                      refine Ev.getR dX8_goesRound_107 (Eq.refl 110) fg_X8_13 rfl rfl (rX8_3 hR) ?_
                      refine Ev.bipush dX8_goesRound_110 (Eq.refl 112) (by decide) ?_
                      refine Ev.iconst dX8_goesRound_112 (Eq.refl 113) ?_
                      refine Ev.iload_n dX8_goesRound_113 (Eq.refl 114) rfl ?_
                      refine Ev.imul dX8_goesRound_114 (Eq.refl 115) ?_
                      refine Ev.iadd dX8_goesRound_115 (Eq.refl 116) ?_
                      refine Ev.iconst dX8_goesRound_116 (Eq.refl 117) ?_
                      refine Ev.iadd dX8_goesRound_117 (Eq.refl 118) ?_
                      refine Ev.iload dX8_goesRound_118 (Eq.refl 120) rfl ?_
                      refine Ev.iastore dX8_goesRound_120 (Eq.refl 121) rfl rfl (by omega) (by decide) q1 ?_
                      refine Ev.ii2 dX8_goesRound_121 (Eq.refl 124) (by decide) rfl ?_
                      refine Ev.goto' (pc' := 9) dX8_goesRound_124 (by decide) ?_
                      refine NX _ _ _ _ _ (by rw [eN]; (repeat' split); all_goals omega) ?_
                      first | exact ex_u ey c90 | exact ex_t (show nQ v (len v) k ≠ vQ v k by rw [← hN, eN]; (repeat' split); all_goals omega) | (rw [show (0 : Int) = y by omega]; exact ex_s ey (fun w => w (by rw [← hN, eN]; (repeat' split); all_goals omega)))
        · have en : nQ v (len v) k = vQ v k := if_neg (fun w => z ⟨w.1, by have := w.2; omega⟩)
          have B2 : MB g (vQm v (fun s => if s < k + 1 then nQ v (len v) s else vQ v s)) := by
            rw [vQm_c (g := fun s => if s < k then nQ v (len v) s else vQ v s) (fun s => by
              by_cases e : s = k
              · rw [e, if_pos (by omega), if_neg (by omega), en]
              · by_cases l : s < k
                · rw [if_pos l, if_pos (by omega)]
                · rw [if_neg l, if_neg (by omega)])]
            exact Bg
          refine Ev.iload_n dX8_goesRound_9 (Eq.refl 10) rfl ?_
          refine Ev.aload_n dX8_goesRound_10 (Eq.refl 11) rfl ?_
          refine Ev.getR dX8_goesRound_11 (Eq.refl 14) fg_X8_13 rfl rfl (rX8_3 hR) ?_
          refine Ev.iconst dX8_goesRound_14 (Eq.refl 15) ?_
          refine Ev.iaload dX8_goesRound_15 (Eq.refl 16) rfl rfl (by omega) (by decide) (show (1 : Int).toNat = 1 from rfl) ?_
          rw [e1]
          refine Ev.icmp_ge (tgt := 127) dX8_goesRound_16 (Eq.refl 19) (by decide) ⟨by omega, by omega⟩ ⟨by omega, by omega⟩ (fun c16 => ?_) (fun c16 => ?_)
          · omega
          · refine Ev.aload_n dX8_goesRound_19 (Eq.refl 20) rfl ?_
            refine Ev.iload_n dX8_goesRound_20 (Eq.refl 21) rfl ?_
            refine Ev.cv1E dX8_goesRound_21 (Eq.refl 24) cw_X8_178 (Nat.le_of_ble_eq_true rfl) (by decide) rfl rfl rfl (Nat.le_of_ble_eq_true rfl) (cA) ?_
            refine Ev.if_eqB (tgt := 121) dX8_goesRound_24 (Eq.refl 27) (by decide) (fun c24 => ?_) (fun c24 => ?_)
            · refine Ev.ii2 dX8_goesRound_121 (Eq.refl 124) (by decide) rfl ?_
              refine Ev.goto' (pc' := 9) dX8_goesRound_124 (by decide) ?_
              exact ih _ (by omega) (k + 1) _ _ _ _ _ rfl (by omega) hG hy B2 (ex_s ey (fun w => w en))
            · exact absurd c24 z
      · have e : k = vS v := by omega
        subst e
        have B2 : MB g (rnd v) := by
          have : vQm v (fun s => if s < vS v then nQ v (len v) s else vQ v s) = rnd v := vQm_c (fun s => by
            by_cases l : s < vS v
            · rw [if_pos l, if_pos l]
            · rw [if_neg l, if_neg l]; exact td s (by omega))
          rw [← this]; exact Bg
        refine Ev.iload_n dX8_goesRound_9 (Eq.refl 10) rfl ?_
        refine Ev.aload_n dX8_goesRound_10 (Eq.refl 11) rfl ?_
        refine Ev.getR dX8_goesRound_11 (Eq.refl 14) fg_X8_13 rfl rfl (rX8_3 hR) ?_
        refine Ev.iconst dX8_goesRound_14 (Eq.refl 15) ?_
        refine Ev.iaload dX8_goesRound_15 (Eq.refl 16) rfl rfl (by omega) (by decide) (show (1 : Int).toNat = 1 from rfl) ?_
        rw [e1]
        refine Ev.icmp_ge (tgt := 127) dX8_goesRound_16 (Eq.refl 19) (by decide) ⟨by omega, by omega⟩ ⟨by omega, by omega⟩ (fun c16 => ?_) (fun c16 => ?_)
        · refine Ev.iload_n dX8_goesRound_127 (Eq.refl 128) rfl ?_
          exact Ev.zret dX8_goesRound_128 rfl (by first | exact bi01 _ | exact Or.inl rfl | exact Or.inr rfl | omega) (⟨_, rfl, hG, B2, ey⟩)
        · omega
  refine Ev.aload_n dX8_goesRound_0 (Eq.refl 1) rfl ?_
  refine Ev.cv0I dX8_goesRound_1 (Eq.refl 4) cw_X8_202 (Nat.le_of_ble_eq_true rfl) (by decide) rfl rfl rfl (Nat.le_of_ble_eq_true rfl) (q_lays B) (fun x1 g1 hp1 => ?_)
  have M := MS.of B hp1 ha
  refine Ev.popV dX8_goesRound_4 (Eq.refl 5) rfl ?_
  refine Ev.iconst dX8_goesRound_5 (Eq.refl 6) ?_
  refine Ev.is1 dX8_goesRound_6 (Eq.refl 7) (by decide) rfl ?_
  refine Ev.iconst dX8_goesRound_7 (Eq.refl 8) ?_
  refine Ev.is2 dX8_goesRound_8 (Eq.refl 9) (by decide) rfl ?_
  exact LOOP g1 (Gk.rf.lk hp1.1) M.2.2 _ 0 _ _ _ _ _ rfl (by omega) (Gk.rf.lk hp1.1) M.2.2 (by rw [vQm_own (fun s => if_neg (by omega))]; exact M.1) (bi_f (fun ⟨t, h1, _⟩ => by omega)).symm
end GK
theorem bi_na {c : Prop} (h : bi c ≠ 0) : c := Classical.byContradiction fun q => h (bi_f q)
theorem rndC_b {v : Nv} : ∀ n, 0 ≤ rndC v n ∧ rndC v n ≤ n
  | 0 => by show 0 ≤ (0 : Int) ∧ (0 : Int) ≤ 0; omega
  | n + 1 => by
    have ih := rndC_b (v := v) n
    have := bi01 (chg (itr v n))
    show 0 ≤ rndC v n + bi (chg (itr v n)) ∧ rndC v n + bi (chg (itr v n)) ≤ _
    push_cast; omega
theorem m_round {h : Hp} {s : St} {n : Int} (I : MInv h s) (hn : I32 n) : Ev mX8_round 6 0 (entL [.ref 0, iv n] 4) [] h (PM (aRound s n)) := by
  show Ev mX8_round 6 0 [some (.ref 0), some (iv n), none, none] [] h _
  have TAIL : ∀ h, MInv h s → Ev mX8_round 6 5 [some (.ref 0), some (iv n), none, none] [] h (PM (aRound s n)) := by
    intro h I
    have B := I.B
    have i1 : I32 1 := ⟨by omega, by omega⟩
    have i20 : I32 20 := ⟨by omega, by omega⟩
    by_cases c : 1 ≤ n ∧ n ≤ 20
    · obtain ⟨N, rfl⟩ := Int.eq_ofNat_of_zero_le (show 0 ≤ n by omega)
      have cH := q_hung (w := -4) B (by omega)
      rw [GW4] at cH
      by_cases ha : aH (sV s) (hgV (sV s))
      · have ea : aRound s (N : Int) = (rndC (sV s) N, psh s (itr (sV s) N)) := (if_pos c).trans (cif_t ha)
        have LOOP : ∀ (h0 g1 : Hp), MInv h0 s → Fn h0 g1 → MP g1 (if sK s < 6 then sK s + 1 else 6) (fun t => if t = 0 then gV (h0.1 2) else sP s (t - 1)) → ∀ (m k : Nat) (g : Hp), N - k = m → k ≤ N → Gk g1 g → MB g (itr (sV s) k) → Ev mX8_round 6 37 [some (.ref 0), some (iv (N : Int)), some (iv (rndC (sV s) k)), some (iv (k : Int))] [] g (PM (aRound s (N : Int))) := by
          intro h0 g1 I0 hF1 hP1 m
          induction m using Nat.strongRecOn with
          | ind m ih =>
            intro k g hm hk hG Bg
            have hR : MOk g.2.2 := Bg.1
            have rb := rndC_b (v := sV s) k
            by_cases hk2 : k < N
            · have cG := m_goesRound Bg (aH_itr ha k)
              refine Ev.iload_n dX8_round_37 (Eq.refl 38) rfl ?_
              refine Ev.iload_n dX8_round_38 (Eq.refl 39) rfl ?_
              refine Ev.icmp_ge (tgt := 63) dX8_round_39 (Eq.refl 42) (by decide) ⟨by omega, by omega⟩ ⟨by omega, by omega⟩ (fun c39 => ?_) (fun c39 => ?_)
              · omega
              · refine Ev.iload_n dX8_round_42 (Eq.refl 43) rfl ?_
                refine Ev.aload_n dX8_round_43 (Eq.refl 44) rfl ?_
                refine Ev.cv0I dX8_round_44 (Eq.refl 47) cw_X8_206 (Nat.le_of_ble_eq_true rfl) (by decide) rfl rfl rfl (Nat.le_of_ble_eq_true rfl) (cG) (fun x44 g44 hp44 => ?_)
                obtain ⟨hG2, B2, rfl⟩ := hp44
                refine Ev.if_eqB (tgt := 54) dX8_round_47 (Eq.refl 50) (by decide) (fun c47 => ?_) (fun c47 => ?_)
                · have e : rndC (sV s) k + 0 = rndC (sV s) (k + 1) := by show _ = rndC (sV s) k + bi (chg (itr (sV s) k)); rw [bi_f c47]
                  refine Ev.iconst dX8_round_54 (Eq.refl 55) ?_
                  refine Ev.iadd dX8_round_55 (Eq.refl 56) ?_
                  rw [e]
                  refine Ev.is2 dX8_round_56 (Eq.refl 57) (by decide) rfl ?_
                  refine Ev.ii3 dX8_round_57 (Eq.refl 60) (by decide) rfl ?_
                  refine Ev.goto' (pc' := 37) dX8_round_60 (by decide) ?_
                  exact ih _ (by omega) (k + 1) _ rfl (by omega) (hG.tr hG2) B2
                · have e : rndC (sV s) k + 1 = rndC (sV s) (k + 1) := by show _ = rndC (sV s) k + bi (chg (itr (sV s) k)); rw [bi_t c47]
                  refine Ev.iconst dX8_round_50 (Eq.refl 51) ?_
                  refine Ev.goto' (pc' := 55) dX8_round_51 (by decide) ?_
                  refine Ev.iadd dX8_round_55 (Eq.refl 56) ?_
                  rw [e]
                  refine Ev.is2 dX8_round_56 (Eq.refl 57) (by decide) rfl ?_
                  refine Ev.ii3 dX8_round_57 (Eq.refl 60) (by decide) rfl ?_
                  refine Ev.goto' (pc' := 37) dX8_round_60 (by decide) ?_
                  exact ih _ (by omega) (k + 1) _ rfl (by omega) (hG.tr hG2) B2
            · have e : k = N := by omega
              subst e
              refine Ev.iload_n dX8_round_37 (Eq.refl 38) rfl ?_
              refine Ev.iload_n dX8_round_38 (Eq.refl 39) rfl ?_
              refine Ev.icmp_ge (tgt := 63) dX8_round_39 (Eq.refl 42) (by decide) ⟨by omega, by omega⟩ ⟨by omega, by omega⟩ (fun c39 => ?_) (fun c39 => ?_)
              · refine Ev.iload_n dX8_round_63 (Eq.refl 64) rfl ?_
                exact Ev.iret dX8_round_64 rfl ((by rw [ea]; exact ⟨_, rfl, rfl, I0.ch hF1 hP1 _ hG.1 (hG.2.1 1 (by omega) (by omega) (by omega) (by omega) (by omega)) (hG.2.1 4 (by omega) (by omega) (by omega) (by omega) (by omega)) (hG.2.2 2 (by omega)) (hG.2.2 6 (by omega)) ⟨Bg.2.1, Bg.2.2⟩⟩))
              · omega
        refine Ev.iload_n dX8_round_5 (Eq.refl 6) rfl ?_
        refine Ev.iconst dX8_round_6 (Eq.refl 7) ?_
        refine Ev.bipush dX8_round_7 (Eq.refl 9) (by decide) ?_
        refine Ev.cs3E dX8_round_9 (Eq.refl 12) cw_X8_73 (Nat.le_of_ble_eq_true rfl) (by decide) rfl (Nat.le_of_ble_eq_true rfl) (m_in (by assumption) (by assumption) (by assumption)) ?_
        refine Ev.if_neB (tgt := 17) dX8_round_12 (Eq.refl 15) (by decide) (fun c12 => ?_) (fun c12 => ?_)
        · refine Ev.aload_n dX8_round_17 (Eq.refl 18) rfl ?_
          refine Ev.bipush dX8_round_18 (Eq.refl 20) (by decide) ?_
          refine Ev.cv1I dX8_round_20 (Eq.refl 23) cw_X8_150 (Nat.le_of_ble_eq_true rfl) (by decide) rfl rfl rfl (Nat.le_of_ble_eq_true rfl) (cH) (fun x20 g20 hp20 => ?_)
          obtain ⟨hF20, rfl, h7⟩ := hp20
          have hK := Lk.rf.f7 hF20
          have I2 := I.k hK.k
          have hR : MOk g20.2.2 := I2.1
          refine Ev.if_neB (tgt := 29) dX8_round_23 (Eq.refl 26) (by decide) (fun c23 => ?_) (fun c23 => ?_)
          · refine Ev.aload_n dX8_round_29 (Eq.refl 30) rfl ?_
            refine Ev.cv0V dX8_round_30 (Eq.refl 33) cw_X8_187 (Nat.le_of_ble_eq_true rfl) (by decide) rfl rfl rfl (Nat.le_of_ble_eq_true rfl) (m_notes hR I2.2.1.1 I2.2.2.2) (fun g30 hp30 => ?_)
            obtain ⟨hF30, hP30⟩ := hp30
            refine Ev.iconst dX8_round_33 (Eq.refl 34) ?_
            refine Ev.is2 dX8_round_34 (Eq.refl 35) (by decide) rfl ?_
            refine Ev.iconst dX8_round_35 (Eq.refl 36) ?_
            refine Ev.is3 dX8_round_36 (Eq.refl 37) (by decide) rfl ?_
            exact LOOP g20 g30 I2 hF30 hP30 _ 0 _ rfl (by omega) Gk.rf (I2.B.c hF30.1 hF30.s)
          · exact absurd ha c23
        · exact absurd c c12
      · have ea : aRound s (N : Int) = (-2, s) := (if_pos c).trans (cif_f ha)
        refine Ev.iload_n dX8_round_5 (Eq.refl 6) rfl ?_
        refine Ev.iconst dX8_round_6 (Eq.refl 7) ?_
        refine Ev.bipush dX8_round_7 (Eq.refl 9) (by decide) ?_
        refine Ev.cs3E dX8_round_9 (Eq.refl 12) cw_X8_73 (Nat.le_of_ble_eq_true rfl) (by decide) rfl (Nat.le_of_ble_eq_true rfl) (m_in (by assumption) (by assumption) (by assumption)) ?_
        refine Ev.if_neB (tgt := 17) dX8_round_12 (Eq.refl 15) (by decide) (fun c12 => ?_) (fun c12 => ?_)
        · refine Ev.aload_n dX8_round_17 (Eq.refl 18) rfl ?_
          refine Ev.bipush dX8_round_18 (Eq.refl 20) (by decide) ?_
          refine Ev.cv1I dX8_round_20 (Eq.refl 23) cw_X8_150 (Nat.le_of_ble_eq_true rfl) (by decide) rfl rfl rfl (Nat.le_of_ble_eq_true rfl) (cH) (fun x20 g20 hp20 => ?_)
          obtain ⟨hF20, rfl, h7⟩ := hp20
          refine Ev.if_neB (tgt := 29) dX8_round_23 (Eq.refl 26) (by decide) (fun c23 => ?_) (fun c23 => ?_)
          · exact absurd c23 ha
          · refine Ev.bipush dX8_round_26 (Eq.refl 28) (by decide) ?_
            exact Ev.iret dX8_round_28 rfl ((by rw [ea]; exact ⟨_, rfl, rfl, I.k (Lk.rf.f7 hF20).k⟩))
        · exact absurd c c12
    · have ea : aRound s n = (-1, s) := if_neg c
      refine Ev.iload_n dX8_round_5 (Eq.refl 6) rfl ?_
      refine Ev.iconst dX8_round_6 (Eq.refl 7) ?_
      refine Ev.bipush dX8_round_7 (Eq.refl 9) (by decide) ?_
      refine Ev.cs3E dX8_round_9 (Eq.refl 12) cw_X8_73 (Nat.le_of_ble_eq_true rfl) (by decide) rfl (Nat.le_of_ble_eq_true rfl) (m_in (by assumption) (by assumption) (by assumption)) ?_
      refine Ev.if_neB (tgt := 17) dX8_round_12 (Eq.refl 15) (by decide) (fun c12 => ?_) (fun c12 => ?_)
      · exact absurd c12 c
      · refine Ev.iconst dX8_round_15 (Eq.refl 16) ?_
        exact Ev.iret dX8_round_16 rfl ((by rw [ea]; exact ⟨_, rfl, rfl, I⟩))
  refine Ev.aload_n dX8_round_0 (Eq.refl 1) rfl ?_
  refine Ev.iconst dX8_round_1 (Eq.refl 2) ?_
  refine Ev.putI dX8_round_2 (Eq.refl 5) fp_X8_69 rfl rfl (Or.inl rfl) ?_
  exact TAIL _ (I.k (Mk.rf.w (by omega)))
