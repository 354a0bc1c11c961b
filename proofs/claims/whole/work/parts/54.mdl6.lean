/-! The model: draftFrees, takesFree -/
theorem gKind {f : Nat → Int} (k : GOk f) {j : Nat} (hj : j < vJ (gV f)) : f (4 + j) = if vF (gV f) j = true then 1 else 0 := by
  have eJ := gJ k
  have hj2 : (j : Int) < f 0 := by omega
  have q := gF (f := f) hj2
  by_cases z : vF (gV f) j = true
  · rw [if_pos z]; exact q.mpr z
  · rw [if_neg z]
    rcases k.2.2.1 j hj2 with w | w
    · exact w
    · exact absurd (q.mp w) z
theorem m_draftFrees {h : Hp} (hR : MOk h.2.2) (ok : GOk (h.1 3)) : Ev mX8_draftFrees 0 0 (entL [.ref 0] 3) [] h (PE (vN (gV (h.1 3)) : Nat) h) := by
  show Ev mX8_draftFrees 0 0 [some (.ref 0), none, none] [] h _
  have eJ := gJ ok
  have bJ := ok.1
  have LOOP : ∀ (m k : Nat), vJ (gV (h.1 3)) - k = m → k ≤ vJ (gV (h.1 3)) → Ev mX8_draftFrees 0 4 [some (.ref 0), some (iv (rwo (gV (h.1 3)) k : Int)), some (iv (k : Int))] [] h (PE (vN (gV (h.1 3)) : Nat) h) := by
    intro m
    induction m using Nat.strongRecOn with
    | ind m ih =>
      intro k hm hk
      by_cases hk2 : k < vJ (gV (h.1 3))
      · have ek := gKind ok hk2
        have er : (rwo (gV (h.1 3)) (k + 1) : Int) = (rwo (gV (h.1 3)) k : Int) + if vF (gV (h.1 3)) k = true then 1 else 0 := by
          by_cases z : vF (gV (h.1 3)) k = true
          · rw [if_pos z, show rwo (gV (h.1 3)) (k + 1) = rwo (gV (h.1 3)) k + 1 from cnt_s z]; push_cast; rfl
          · rw [if_neg z, show rwo (gV (h.1 3)) (k + 1) = rwo (gV (h.1 3)) k from cnt_n (by simpa using z)]; omega
        refine Ev.iload_n dX8_draftFrees_4 (Eq.refl 5) rfl ?_
        refine Ev.aload_n dX8_draftFrees_5 (Eq.refl 6) rfl ?_
        refine Ev.getR dX8_draftFrees_6 (Eq.refl 9) fg_X8_17 rfl rfl (rX8_4 hR) ?_
        refine Ev.iconst dX8_draftFrees_9 (Eq.refl 10) ?_
        refine Ev.iaload dX8_draftFrees_10 (Eq.refl 11) rfl rfl (by omega) (by decide) (show (0 : Int).toNat = 0 from rfl) ?_
        rw [eJ]
        refine Ev.icmp_ge (tgt := 31) dX8_draftFrees_11 (Eq.refl 14) (by decide) ⟨by omega, by omega⟩ ⟨by omega, by omega⟩ (fun c11 => ?_) (fun c11 => ?_)
        · omega
        · refine Ev.iload_n dX8_draftFrees_14 (Eq.refl 15) rfl ?_
          refine Ev.aload_n dX8_draftFrees_15 (Eq.refl 16) rfl ?_
          refine Ev.getR dX8_draftFrees_16 (Eq.refl 19) fg_X8_17 rfl rfl (rX8_4 hR) ?_
          refine Ev.iconst dX8_draftFrees_19 (Eq.refl 20) ?_
          refine Ev.iload_n dX8_draftFrees_20 (Eq.refl 21) rfl ?_
          refine Ev.iadd dX8_draftFrees_21 (Eq.refl 22) ?_
          refine Ev.iaload dX8_draftFrees_22 (Eq.refl 23) rfl rfl (by omega) (by decide) (show ((4 : Int) + (k : Int)).toNat = 4 + k by omega) ?_
          rw [ek]
          refine Ev.iadd dX8_draftFrees_23 (Eq.refl 24) ?_
          rw [← er]
          refine Ev.is1 dX8_draftFrees_24 (Eq.refl 25) (by decide) rfl ?_
          refine Ev.ii2 dX8_draftFrees_25 (Eq.refl 28) (by decide) rfl ?_
          refine Ev.goto' (pc' := 4) dX8_draftFrees_28 (by decide) ?_
          exact ih _ (by omega) (k + 1) rfl (by omega)
      · have e : k = vJ (gV (h.1 3)) := by omega
        refine Ev.iload_n dX8_draftFrees_4 (Eq.refl 5) rfl ?_
        refine Ev.aload_n dX8_draftFrees_5 (Eq.refl 6) rfl ?_
        refine Ev.getR dX8_draftFrees_6 (Eq.refl 9) fg_X8_17 rfl rfl (rX8_4 hR) ?_
        refine Ev.iconst dX8_draftFrees_9 (Eq.refl 10) ?_
        refine Ev.iaload dX8_draftFrees_10 (Eq.refl 11) rfl rfl (by omega) (by decide) (show (0 : Int).toNat = 0 from rfl) ?_
        rw [eJ]
        refine Ev.icmp_ge (tgt := 31) dX8_draftFrees_11 (Eq.refl 14) (by decide) ⟨by omega, by omega⟩ ⟨by omega, by omega⟩ (fun c11 => ?_) (fun c11 => ?_)
        · refine Ev.iload_n dX8_draftFrees_31 (Eq.refl 32) rfl ?_
          exact Ev.iret dX8_draftFrees_32 rfl (PE.of (by rw [e]))
        · omega
  refine Ev.iconst dX8_draftFrees_0 (Eq.refl 1) ?_
  refine Ev.is1 dX8_draftFrees_1 (Eq.refl 2) (by decide) rfl ?_
  refine Ev.iconst dX8_draftFrees_2 (Eq.refl 3) ?_
  refine Ev.is2 dX8_draftFrees_3 (Eq.refl 4) (by decide) rfl ?_
  exact LOOP _ 0 rfl (by omega)
theorem m_takesFree {h : Hp} {t : Nat → Int} {L p : Nat} (hR : MOk h.2.2) (hT : MT h t L) (h8 : h.1 0 8 = (p : Int)) (h9 : h.1 0 9 = 1) (hp : p ≤ L) (ok : GOk (h.1 3)) : Ev mX8_takesFree 4 0 (entL [.ref 0] 3) [] h (PV (fun h' => tkP t L 117 p (gV (h.1 3)) h h')) := by
  show Ev mX8_takesFree 4 0 [some (.ref 0), none, none] [] h _
  have hb : (0 : Int) ≤ 1 ∧ (1 : Int) ≤ 1 := by omega
  have bJ := ok.1
  have eJ := gJ ok
  have TN : ∀ g, MOk g.2.2 → Mz h g → g.1 0 9 = 0 → resI t L 117 p (gV (h.1 3)) = none → Ev mX8_takesFree 4 5 [some (.ref 0), none, none] [] g (PV (fun h' => tkP t L 117 p (gV (h.1 3)) h h')) := by
    intro g hR mz g9 e
    have h9' := g9
    refine Ev.aload_n dX8_takesFree_5 (Eq.refl 6) rfl ?_
    refine Ev.aload_n dX8_takesFree_6 (Eq.refl 7) rfl ?_
    refine Ev.getI dX8_takesFree_7 (Eq.refl 10) fg_X8_83 rfl rfl ?_
    rw [g9]
    refine Ev.if_eq (tgt := 47) dX8_takesFree_10 (Eq.refl 13) (by decide) ⟨by omega, by omega⟩ (fun c10 => ?_) (fun c10 => ?_)
    · refine Ev.iconst dX8_takesFree_47 (Eq.refl 48) ?_
      refine Ev.putI dX8_takesFree_48 (Eq.refl 51) fp_X8_83 rfl rfl (Or.inr ⟨rfl, by omega⟩) ?_
      refine Ev.aload_n dX8_takesFree_51 (Eq.refl 52) rfl ?_
      refine Ev.getI dX8_takesFree_52 (Eq.refl 55) fg_X8_83 rfl rfl ?_
      rw [hI_eq]
      refine Ev.if_eq (tgt := 129) dX8_takesFree_55 (Eq.refl 58) (by decide) ⟨by omega, by omega⟩ (fun c55 => ?_) (fun c55 => ?_)
      · exact Ev.vret dX8_takesFree_129 rfl (⟨rfl, tk_n (mz.w (by omega)) e hI_eq⟩)
      · omega
    · omega
  have TS : ∀ (g : Hp) (p' : Nat) (r : List Int × Nat), MOk g.2.2 → Mz h g → (∀ j, g.1 3 j = h.1 3 j) → g.1 0 9 = 1 → g.1 0 8 = (p' : Int) → pNs t L 1 p = some r → p' = r.2 → p ≤ p' ∧ p' ≤ L → (∀ i, i < 1 → g.1 6 i = r.1.getD i 0 ∧ 0 ≤ r.1.getD i 0 ∧ r.1.getD i 0 ≤ 99) → Ev mX8_takesFree 4 5 [some (.ref 0), none, none] [] g (PV (fun h' => tkP t L 117 p (gV (h.1 3)) h h')) := by
    intro g p' r hR mz g3 g9 g8 hr ep hpp hn
    subst ep
    have n0 := hn 0 (by omega)
    have ei : item 117 (fun i => r.1.getD i 0) (gV (h.1 3)) = cif (okFre (gV (h.1 3)) (r.1.getD 0 0 - 9)) (some (vFre (gV (h.1 3)) (r.1.getD 0 0 - 9))) none := rfl
    have er := resI_e (t := t) (L := L) (c := 117) (p := p) (v := gV (h.1 3)) (r := r) hr
    have rn : ¬ okFre (gV (h.1 3)) (r.1.getD 0 0 - 9) → resI t L 117 p (gV (h.1 3)) = none := fun z => by rw [er, ei, cif_f z]
    have rs : okFre (gV (h.1 3)) (r.1.getD 0 0 - 9) → resI t L 117 p (gV (h.1 3)) = some (r.2, vFre (gV (h.1 3)) (r.1.getD 0 0 - 9)) := fun z => by rw [er, ei, cif_t z]
    have d0 : g.1 3 0 = (vJ (gV (h.1 3)) : Int) := (g3 0).trans eJ
    have e3 : g.1 3 = h.1 3 := funext g3
    have okg : GOk (g.1 3) := by rw [e3]; exact ok
    have nl := cnt_le (vF (gV (h.1 3))) (vJ (gV (h.1 3)))
    have n5 := ok.2.2.2.2.2.2.1
    have hdf := m_draftFrees hR okg
    rw [e3] at hdf
    generalize hNN : vN (gV (h.1 3)) = NN at *
    have hNN2 : cnt (vF (gV (h.1 3))) (vJ (gV (h.1 3))) = NN := hNN
    generalize hJJ : vJ (gV (h.1 3)) = J at *
    have NN5 : NN ≤ 10 := by omega
    have LOOP : okFre (gV (h.1 3)) (r.1.getD 0 0 - 9) → ∀ (m k : Nat) (f : Hp), 3 - k = m → k ≤ 3 → MOk f.2.2 → Mz h f → f.1 0 9 = 1 → f.1 0 8 = (r.2 : Int) → f.1 3 0 = (J : Int) → f.1 3 (4 + J) = 1 → f.1 3 (44 + J) = r.1.getD 0 0 - 9 → (∀ i, i ≠ 4 + J → i ≠ 44 + J → (i < 14 + 3 * J ∨ 14 + 3 * J + 2 < i) → f.1 3 i = h.1 3 i) → Ev mX8_takesFree 4 94 [some (.ref 0), some (iv (J : Int)), some (iv (k : Int))] [] f (PV (fun h' => tkP t L 117 p (gV (h.1 3)) h h')) := by
      intro okf m
      have J10 : J < 10 := by rw [← hJJ]; exact okf.1
      induction m using Nat.strongRecOn with
      | ind m ih =>
        intro k f hm hk hR mz f9 f8 f0 fk fl fo
        by_cases k3 : k < 3
        · have q1 : ((14 : Int) + 3 * (J : Int) + (k : Int)).toNat = 14 + 3 * J + k := by omega
          refine Ev.iload_n dX8_takesFree_94 (Eq.refl 95) rfl ?_
          refine Ev.iconst dX8_takesFree_95 (Eq.refl 96) ?_
          refine Ev.icmp_ge (tgt := 119) dX8_takesFree_96 (Eq.refl 99) (by decide) ⟨by omega, by omega⟩ ⟨by omega, by omega⟩ (fun c96 => ?_) (fun c96 => ?_)
          · omega
          · refine Ev.aload_n dX8_takesFree_99 (Eq.refl 100) rfl ?_
            refine Ev.getR dX8_takesFree_100 (Eq.refl 103) fg_X8_17 rfl rfl (rX8_4 hR) ?_
            refine Ev.bipush dX8_takesFree_103 (Eq.refl 105) (by decide) ?_
            refine Ev.iconst dX8_takesFree_105 (Eq.refl 106) ?_
            refine Ev.iload_n dX8_takesFree_106 (Eq.refl 107) rfl ?_
            refine Ev.imul dX8_takesFree_107 (Eq.refl 108) ?_
            refine Ev.iadd dX8_takesFree_108 (Eq.refl 109) ?_
            refine Ev.iload_n dX8_takesFree_109 (Eq.refl 110) rfl ?_
            refine Ev.iadd dX8_takesFree_110 (Eq.refl 111) ?_
            refine Ev.iconst dX8_takesFree_111 (Eq.refl 112) ?_
            refine Ev.iastore dX8_takesFree_112 (Eq.refl 113) rfl rfl (by omega) (by decide) q1 ?_
            refine Ev.ii2 dX8_takesFree_113 (Eq.refl 116) (by decide) rfl ?_
            refine Ev.goto' (pc' := 94) dX8_takesFree_116 (by decide) ?_
            exact ih _ (by omega) (k + 1) _ rfl (by omega) hR (mz.w (by omega)) (by rw [hI_ni (by omega)]; exact f9) (by rw [hI_ni (by omega)]; exact f8) (by rw [hI_nk (by omega)]; exact f0) (by rw [hI_nk (by omega)]; exact fk) (by rw [hI_nk (by omega)]; exact fl) (fun i a b c => by rw [hI_nk (by omega)]; exact fo i a b c)
        · have k4 : ¬ k < 3 := k3
          refine Ev.iload_n dX8_takesFree_94 (Eq.refl 95) rfl ?_
          refine Ev.iconst dX8_takesFree_95 (Eq.refl 96) ?_
          refine Ev.icmp_ge (tgt := 119) dX8_takesFree_96 (Eq.refl 99) (by decide) ⟨by omega, by omega⟩ ⟨by omega, by omega⟩ (fun c96 => ?_) (fun c96 => ?_)
          · refine Ev.aload_n dX8_takesFree_119 (Eq.refl 120) rfl ?_
            refine Ev.getR dX8_takesFree_120 (Eq.refl 123) fg_X8_17 rfl rfl (rX8_4 hR) ?_
            refine Ev.iconst dX8_takesFree_123 (Eq.refl 124) ?_
            refine Ev.dup2 dX8_takesFree_124 (Eq.refl 125) rfl rfl ?_
            refine Ev.iaload dX8_takesFree_125 (Eq.refl 126) rfl rfl (by omega) (by decide) (show (0 : Int).toNat = 0 from rfl) ?_
            rw [f0]
            refine Ev.iconst dX8_takesFree_126 (Eq.refl 127) ?_
            refine Ev.iadd dX8_takesFree_127 (Eq.refl 128) ?_
            refine Ev.iastore dX8_takesFree_128 (Eq.refl 129) rfl rfl (by omega) (by decide) (show (0 : Int).toNat = 0 from rfl) ?_
            exact Ev.vret dX8_takesFree_129 rfl (⟨rfl, tk_s (mz.w (by omega)) (rs okf) (by rw [hI_ni (by omega)]; exact f9) (by rw [hI_ni (by omega)]; exact f8) hpp (gFre ok okf (by omega) (by rw [hI_eq, eJ]) (by rw [hJJ, hI_nk (by omega)]; exact fk) (by rw [hJJ, hI_nk (by omega)]; exact fl) (fun i a b c d e f => by rw [hJJ] at b c d e f; rw [hI_nk a]; exact fo i b c (by omega)))⟩)
          · omega
    refine Ev.aload_n dX8_takesFree_5 (Eq.refl 6) rfl ?_
    refine Ev.aload_n dX8_takesFree_6 (Eq.refl 7) rfl ?_
    refine Ev.getI dX8_takesFree_7 (Eq.refl 10) fg_X8_83 rfl rfl ?_
    rw [g9]
    refine Ev.if_eq (tgt := 47) dX8_takesFree_10 (Eq.refl 13) (by decide) ⟨by omega, by omega⟩ (fun c10 => ?_) (fun c10 => ?_)
    · omega
    · refine Ev.aload_n dX8_takesFree_13 (Eq.refl 14) rfl ?_
      refine Ev.getR dX8_takesFree_14 (Eq.refl 17) fg_X8_17 rfl rfl (rX8_4 hR) ?_
      refine Ev.iconst dX8_takesFree_17 (Eq.refl 18) ?_
      refine Ev.iaload dX8_takesFree_18 (Eq.refl 19) rfl rfl (by omega) (by decide) (show (0 : Int).toNat = 0 from rfl) ?_
      rw [d0]
      refine Ev.bipush dX8_takesFree_19 (Eq.refl 21) (by decide) ?_
      refine Ev.icmp_ge (tgt := 47) dX8_takesFree_21 (Eq.refl 24) (by decide) ⟨by omega, by omega⟩ ⟨by omega, by omega⟩ (fun c21 => ?_) (fun c21 => ?_)
      · have e := rn (fun z => by have := z.1; rw [hJJ] at this; omega)
        refine Ev.iconst dX8_takesFree_47 (Eq.refl 48) ?_
        refine Ev.putI dX8_takesFree_48 (Eq.refl 51) fp_X8_83 rfl rfl (Or.inr ⟨rfl, by omega⟩) ?_
        refine Ev.aload_n dX8_takesFree_51 (Eq.refl 52) rfl ?_
        refine Ev.getI dX8_takesFree_52 (Eq.refl 55) fg_X8_83 rfl rfl ?_
        rw [hI_eq]
        refine Ev.if_eq (tgt := 129) dX8_takesFree_55 (Eq.refl 58) (by decide) ⟨by omega, by omega⟩ (fun c55 => ?_) (fun c55 => ?_)
        · exact Ev.vret dX8_takesFree_129 rfl ((by first | exact ⟨rfl, tk_n (mz.w (by omega)) e hI_eq⟩ | omega))
        · refine Ev.aload_n dX8_takesFree_58 (Eq.refl 59) rfl ?_
          refine Ev.getR dX8_takesFree_59 (Eq.refl 62) fg_X8_17 rfl rfl (rX8_4 hR) ?_
          refine Ev.iconst dX8_takesFree_62 (Eq.refl 63) ?_
          refine Ev.iaload dX8_takesFree_63 (Eq.refl 64) rfl rfl (by omega) (by decide) (show (0 : Int).toNat = 0 from rfl) ?_
          rw [hI_ni (by omega), d0]
          refine Ev.is1 dX8_takesFree_64 (Eq.refl 65) (by decide) rfl ?_
          refine Ev.aload_n dX8_takesFree_65 (Eq.refl 66) rfl ?_
          refine Ev.getR dX8_takesFree_66 (Eq.refl 69) fg_X8_17 rfl rfl (rX8_4 hR) ?_
          refine Ev.iconst dX8_takesFree_69 (Eq.refl 70) ?_
          refine Ev.iload_n dX8_takesFree_70 (Eq.refl 71) rfl ?_
          refine Ev.iadd dX8_takesFree_71 (Eq.refl 72) ?_
          refine Ev.iconst dX8_takesFree_72 (Eq.refl 73) ?_
          refine Ev.iastore dX8_takesFree_73 (Eq.refl 74) rfl rfl (by omega) (by decide) (show ((4 : Int) + (J : Int)).toNat = 4 + J by omega) ?_
          refine Ev.aload_n dX8_takesFree_74 (Eq.refl 75) rfl ?_
          refine Ev.getR dX8_takesFree_75 (Eq.refl 78) fg_X8_17 rfl rfl (rX8_4 hR) ?_
          refine Ev.bipush dX8_takesFree_78 (Eq.refl 80) (by decide) ?_
          refine Ev.iload_n dX8_takesFree_80 (Eq.refl 81) rfl ?_
          refine Ev.iadd dX8_takesFree_81 (Eq.refl 82) ?_
          refine Ev.aload_n dX8_takesFree_82 (Eq.refl 83) rfl ?_
          refine Ev.getR dX8_takesFree_83 (Eq.refl 86) fg_X8_26 rfl rfl (rX8_10 hR) ?_
          refine Ev.iconst dX8_takesFree_86 (Eq.refl 87) ?_
          refine Ev.iaload dX8_takesFree_87 (Eq.refl 88) rfl rfl (by omega) (by decide) (show (0 : Int).toNat = 0 from rfl) ?_
          rw [hI_ni (by omega), hI_ni (by omega), n0.1]
          refine Ev.bipush dX8_takesFree_88 (Eq.refl 90) (by decide) ?_
          refine Ev.isub dX8_takesFree_90 (Eq.refl 91) ?_
          refine Ev.iastore dX8_takesFree_91 (Eq.refl 92) rfl rfl (by omega) (by decide) (show ((44 : Int) + (J : Int)).toNat = 44 + J by omega) ?_
          refine Ev.iconst dX8_takesFree_92 (Eq.refl 93) ?_
          refine Ev.is2 dX8_takesFree_93 (Eq.refl 94) (by decide) rfl ?_
          first | omega | exact LOOP okf _ 0 _ rfl (by omega) hR (((mz.w (by omega)).w (by omega)).w (by omega)) (by rw [hI_ni (by omega), hI_ni (by omega), hI_eq]) (by rw [hI_ni (by omega), hI_ni (by omega), hI_nk (by omega)]; exact g8) (by rw [hI_nk (by omega), hI_nk (by omega), hI_ni (by omega)]; exact d0) (by rw [hI_nk (by omega), hI_eq]) hI_eq (fun i a b c => by rw [hI_nk b, hI_nk a, hI_ni (by omega)]; exact g3 i)
      · refine Ev.aload_n dX8_takesFree_24 (Eq.refl 25) rfl ?_
        refine Ev.cv0E dX8_takesFree_25 (Eq.refl 28) cw_X8_102 (Nat.le_of_ble_eq_true rfl) (by decide) rfl rfl rfl (Nat.le_of_ble_eq_true rfl) (hdf) ?_
        refine Ev.iconst dX8_takesFree_28 (Eq.refl 29) ?_
        refine Ev.icmp_ge (tgt := 47) dX8_takesFree_29 (Eq.refl 32) (by decide) ⟨by omega, by omega⟩ ⟨by omega, by omega⟩ (fun c29 => ?_) (fun c29 => ?_)
        · have e := rn (fun z => by have := z.2.1; rw [hJJ, hNN2] at this; omega)
          refine Ev.iconst dX8_takesFree_47 (Eq.refl 48) ?_
          refine Ev.putI dX8_takesFree_48 (Eq.refl 51) fp_X8_83 rfl rfl (Or.inr ⟨rfl, by omega⟩) ?_
          refine Ev.aload_n dX8_takesFree_51 (Eq.refl 52) rfl ?_
          refine Ev.getI dX8_takesFree_52 (Eq.refl 55) fg_X8_83 rfl rfl ?_
          rw [hI_eq]
          refine Ev.if_eq (tgt := 129) dX8_takesFree_55 (Eq.refl 58) (by decide) ⟨by omega, by omega⟩ (fun c55 => ?_) (fun c55 => ?_)
          · exact Ev.vret dX8_takesFree_129 rfl ((by first | exact ⟨rfl, tk_n (mz.w (by omega)) e hI_eq⟩ | omega))
          · refine Ev.aload_n dX8_takesFree_58 (Eq.refl 59) rfl ?_
            refine Ev.getR dX8_takesFree_59 (Eq.refl 62) fg_X8_17 rfl rfl (rX8_4 hR) ?_
            refine Ev.iconst dX8_takesFree_62 (Eq.refl 63) ?_
            refine Ev.iaload dX8_takesFree_63 (Eq.refl 64) rfl rfl (by omega) (by decide) (show (0 : Int).toNat = 0 from rfl) ?_
            rw [hI_ni (by omega), d0]
            refine Ev.is1 dX8_takesFree_64 (Eq.refl 65) (by decide) rfl ?_
            refine Ev.aload_n dX8_takesFree_65 (Eq.refl 66) rfl ?_
            refine Ev.getR dX8_takesFree_66 (Eq.refl 69) fg_X8_17 rfl rfl (rX8_4 hR) ?_
            refine Ev.iconst dX8_takesFree_69 (Eq.refl 70) ?_
            refine Ev.iload_n dX8_takesFree_70 (Eq.refl 71) rfl ?_
            refine Ev.iadd dX8_takesFree_71 (Eq.refl 72) ?_
            refine Ev.iconst dX8_takesFree_72 (Eq.refl 73) ?_
            refine Ev.iastore dX8_takesFree_73 (Eq.refl 74) rfl rfl (by omega) (by decide) (show ((4 : Int) + (J : Int)).toNat = 4 + J by omega) ?_
            refine Ev.aload_n dX8_takesFree_74 (Eq.refl 75) rfl ?_
            refine Ev.getR dX8_takesFree_75 (Eq.refl 78) fg_X8_17 rfl rfl (rX8_4 hR) ?_
            refine Ev.bipush dX8_takesFree_78 (Eq.refl 80) (by decide) ?_
            refine Ev.iload_n dX8_takesFree_80 (Eq.refl 81) rfl ?_
            refine Ev.iadd dX8_takesFree_81 (Eq.refl 82) ?_
            refine Ev.aload_n dX8_takesFree_82 (Eq.refl 83) rfl ?_
            refine Ev.getR dX8_takesFree_83 (Eq.refl 86) fg_X8_26 rfl rfl (rX8_10 hR) ?_
            refine Ev.iconst dX8_takesFree_86 (Eq.refl 87) ?_
            refine Ev.iaload dX8_takesFree_87 (Eq.refl 88) rfl rfl (by omega) (by decide) (show (0 : Int).toNat = 0 from rfl) ?_
            rw [hI_ni (by omega), hI_ni (by omega), n0.1]
            refine Ev.bipush dX8_takesFree_88 (Eq.refl 90) (by decide) ?_
            refine Ev.isub dX8_takesFree_90 (Eq.refl 91) ?_
            refine Ev.iastore dX8_takesFree_91 (Eq.refl 92) rfl rfl (by omega) (by decide) (show ((44 : Int) + (J : Int)).toNat = 44 + J by omega) ?_
            refine Ev.iconst dX8_takesFree_92 (Eq.refl 93) ?_
            refine Ev.is2 dX8_takesFree_93 (Eq.refl 94) (by decide) rfl ?_
            first | omega | exact LOOP okf _ 0 _ rfl (by omega) hR (((mz.w (by omega)).w (by omega)).w (by omega)) (by rw [hI_ni (by omega), hI_ni (by omega), hI_eq]) (by rw [hI_ni (by omega), hI_ni (by omega), hI_nk (by omega)]; exact g8) (by rw [hI_nk (by omega), hI_nk (by omega), hI_ni (by omega)]; exact d0) (by rw [hI_nk (by omega), hI_eq]) hI_eq (fun i a b c => by rw [hI_nk b, hI_nk a, hI_ni (by omega)]; exact g3 i)
        · refine Ev.aload_n dX8_takesFree_32 (Eq.refl 33) rfl ?_
          refine Ev.getR dX8_takesFree_33 (Eq.refl 36) fg_X8_26 rfl rfl (rX8_10 hR) ?_
          refine Ev.iconst dX8_takesFree_36 (Eq.refl 37) ?_
          refine Ev.iaload dX8_takesFree_37 (Eq.refl 38) rfl rfl (by omega) (by decide) (show (0 : Int).toNat = 0 from rfl) ?_
          rw [n0.1]
          refine Ev.bipush dX8_takesFree_38 (Eq.refl 40) (by decide) ?_
          refine Ev.icmp_gt (tgt := 47) dX8_takesFree_40 (Eq.refl 43) (by decide) ⟨by omega, by omega⟩ ⟨by omega, by omega⟩ (fun c40 => ?_) (fun c40 => ?_)
          · have e := rn (fun z => by have := z.2.2; omega)
            refine Ev.iconst dX8_takesFree_47 (Eq.refl 48) ?_
            refine Ev.putI dX8_takesFree_48 (Eq.refl 51) fp_X8_83 rfl rfl (Or.inr ⟨rfl, by omega⟩) ?_
            refine Ev.aload_n dX8_takesFree_51 (Eq.refl 52) rfl ?_
            refine Ev.getI dX8_takesFree_52 (Eq.refl 55) fg_X8_83 rfl rfl ?_
            rw [hI_eq]
            refine Ev.if_eq (tgt := 129) dX8_takesFree_55 (Eq.refl 58) (by decide) ⟨by omega, by omega⟩ (fun c55 => ?_) (fun c55 => ?_)
            · exact Ev.vret dX8_takesFree_129 rfl ((by first | exact ⟨rfl, tk_n (mz.w (by omega)) e hI_eq⟩ | omega))
            · refine Ev.aload_n dX8_takesFree_58 (Eq.refl 59) rfl ?_
              refine Ev.getR dX8_takesFree_59 (Eq.refl 62) fg_X8_17 rfl rfl (rX8_4 hR) ?_
              refine Ev.iconst dX8_takesFree_62 (Eq.refl 63) ?_
              refine Ev.iaload dX8_takesFree_63 (Eq.refl 64) rfl rfl (by omega) (by decide) (show (0 : Int).toNat = 0 from rfl) ?_
              rw [hI_ni (by omega), d0]
              refine Ev.is1 dX8_takesFree_64 (Eq.refl 65) (by decide) rfl ?_
              refine Ev.aload_n dX8_takesFree_65 (Eq.refl 66) rfl ?_
              refine Ev.getR dX8_takesFree_66 (Eq.refl 69) fg_X8_17 rfl rfl (rX8_4 hR) ?_
              refine Ev.iconst dX8_takesFree_69 (Eq.refl 70) ?_
              refine Ev.iload_n dX8_takesFree_70 (Eq.refl 71) rfl ?_
              refine Ev.iadd dX8_takesFree_71 (Eq.refl 72) ?_
              refine Ev.iconst dX8_takesFree_72 (Eq.refl 73) ?_
              refine Ev.iastore dX8_takesFree_73 (Eq.refl 74) rfl rfl (by omega) (by decide) (show ((4 : Int) + (J : Int)).toNat = 4 + J by omega) ?_
              refine Ev.aload_n dX8_takesFree_74 (Eq.refl 75) rfl ?_
              refine Ev.getR dX8_takesFree_75 (Eq.refl 78) fg_X8_17 rfl rfl (rX8_4 hR) ?_
              refine Ev.bipush dX8_takesFree_78 (Eq.refl 80) (by decide) ?_
              refine Ev.iload_n dX8_takesFree_80 (Eq.refl 81) rfl ?_
              refine Ev.iadd dX8_takesFree_81 (Eq.refl 82) ?_
              refine Ev.aload_n dX8_takesFree_82 (Eq.refl 83) rfl ?_
              refine Ev.getR dX8_takesFree_83 (Eq.refl 86) fg_X8_26 rfl rfl (rX8_10 hR) ?_
              refine Ev.iconst dX8_takesFree_86 (Eq.refl 87) ?_
              refine Ev.iaload dX8_takesFree_87 (Eq.refl 88) rfl rfl (by omega) (by decide) (show (0 : Int).toNat = 0 from rfl) ?_
              rw [hI_ni (by omega), hI_ni (by omega), n0.1]
              refine Ev.bipush dX8_takesFree_88 (Eq.refl 90) (by decide) ?_
              refine Ev.isub dX8_takesFree_90 (Eq.refl 91) ?_
              refine Ev.iastore dX8_takesFree_91 (Eq.refl 92) rfl rfl (by omega) (by decide) (show ((44 : Int) + (J : Int)).toNat = 44 + J by omega) ?_
              refine Ev.iconst dX8_takesFree_92 (Eq.refl 93) ?_
              refine Ev.is2 dX8_takesFree_93 (Eq.refl 94) (by decide) rfl ?_
              first | omega | exact LOOP okf _ 0 _ rfl (by omega) hR (((mz.w (by omega)).w (by omega)).w (by omega)) (by rw [hI_ni (by omega), hI_ni (by omega), hI_eq]) (by rw [hI_ni (by omega), hI_ni (by omega), hI_nk (by omega)]; exact g8) (by rw [hI_nk (by omega), hI_nk (by omega), hI_ni (by omega)]; exact d0) (by rw [hI_nk (by omega), hI_eq]) hI_eq (fun i a b c => by rw [hI_nk b, hI_nk a, hI_ni (by omega)]; exact g3 i)
          · have okf : okFre (gV (h.1 3)) (r.1.getD 0 0 - 9) := ⟨by rw [hJJ]; omega, by rw [hJJ, hNN2]; omega, by omega⟩
            refine Ev.iconst dX8_takesFree_43 (Eq.refl 44) ?_
            refine Ev.goto' (pc' := 48) dX8_takesFree_44 (by decide) ?_
            refine Ev.putI dX8_takesFree_48 (Eq.refl 51) fp_X8_83 rfl rfl (Or.inr ⟨rfl, by omega⟩) ?_
            refine Ev.aload_n dX8_takesFree_51 (Eq.refl 52) rfl ?_
            refine Ev.getI dX8_takesFree_52 (Eq.refl 55) fg_X8_83 rfl rfl ?_
            rw [hI_eq]
            refine Ev.if_eq (tgt := 129) dX8_takesFree_55 (Eq.refl 58) (by decide) ⟨by omega, by omega⟩ (fun c55 => ?_) (fun c55 => ?_)
            · exact Ev.vret dX8_takesFree_129 rfl ((by first | exact ⟨rfl, tk_n (mz.w (by omega)) e hI_eq⟩ | omega))
            · refine Ev.aload_n dX8_takesFree_58 (Eq.refl 59) rfl ?_
              refine Ev.getR dX8_takesFree_59 (Eq.refl 62) fg_X8_17 rfl rfl (rX8_4 hR) ?_
              refine Ev.iconst dX8_takesFree_62 (Eq.refl 63) ?_
              refine Ev.iaload dX8_takesFree_63 (Eq.refl 64) rfl rfl (by omega) (by decide) (show (0 : Int).toNat = 0 from rfl) ?_
              rw [hI_ni (by omega), d0]
              refine Ev.is1 dX8_takesFree_64 (Eq.refl 65) (by decide) rfl ?_
              refine Ev.aload_n dX8_takesFree_65 (Eq.refl 66) rfl ?_
              refine Ev.getR dX8_takesFree_66 (Eq.refl 69) fg_X8_17 rfl rfl (rX8_4 hR) ?_
              refine Ev.iconst dX8_takesFree_69 (Eq.refl 70) ?_
              refine Ev.iload_n dX8_takesFree_70 (Eq.refl 71) rfl ?_
              refine Ev.iadd dX8_takesFree_71 (Eq.refl 72) ?_
              refine Ev.iconst dX8_takesFree_72 (Eq.refl 73) ?_
              refine Ev.iastore dX8_takesFree_73 (Eq.refl 74) rfl rfl (by omega) (by decide) (show ((4 : Int) + (J : Int)).toNat = 4 + J by omega) ?_
              refine Ev.aload_n dX8_takesFree_74 (Eq.refl 75) rfl ?_
              refine Ev.getR dX8_takesFree_75 (Eq.refl 78) fg_X8_17 rfl rfl (rX8_4 hR) ?_
              refine Ev.bipush dX8_takesFree_78 (Eq.refl 80) (by decide) ?_
              refine Ev.iload_n dX8_takesFree_80 (Eq.refl 81) rfl ?_
              refine Ev.iadd dX8_takesFree_81 (Eq.refl 82) ?_
              refine Ev.aload_n dX8_takesFree_82 (Eq.refl 83) rfl ?_
              refine Ev.getR dX8_takesFree_83 (Eq.refl 86) fg_X8_26 rfl rfl (rX8_10 hR) ?_
              refine Ev.iconst dX8_takesFree_86 (Eq.refl 87) ?_
              refine Ev.iaload dX8_takesFree_87 (Eq.refl 88) rfl rfl (by omega) (by decide) (show (0 : Int).toNat = 0 from rfl) ?_
              rw [hI_ni (by omega), hI_ni (by omega), n0.1]
              refine Ev.bipush dX8_takesFree_88 (Eq.refl 90) (by decide) ?_
              refine Ev.isub dX8_takesFree_90 (Eq.refl 91) ?_
              refine Ev.iastore dX8_takesFree_91 (Eq.refl 92) rfl rfl (by omega) (by decide) (show ((44 : Int) + (J : Int)).toNat = 44 + J by omega) ?_
              refine Ev.iconst dX8_takesFree_92 (Eq.refl 93) ?_
              refine Ev.is2 dX8_takesFree_93 (Eq.refl 94) (by decide) rfl ?_
              first | omega | exact LOOP okf _ 0 _ rfl (by omega) hR (((mz.w (by omega)).w (by omega)).w (by omega)) (by rw [hI_ni (by omega), hI_ni (by omega), hI_eq]) (by rw [hI_ni (by omega), hI_ni (by omega), hI_nk (by omega)]; exact g8) (by rw [hI_nk (by omega), hI_nk (by omega), hI_ni (by omega)]; exact d0) (by rw [hI_nk (by omega), hI_eq]) hI_eq (fun i a b c => by rw [hI_nk b, hI_nk a, hI_ni (by omega)]; exact g3 i)
  refine Ev.aload_n dX8_takesFree_0 (Eq.refl 1) rfl ?_
  refine Ev.iconst dX8_takesFree_1 (Eq.refl 2) ?_
  refine Ev.cv1V dX8_takesFree_2 (Eq.refl 5) cw_X8_99 (Nat.le_of_ble_eq_true rfl) (by decide) rfl rfl rfl (Nat.le_of_ble_eq_true rfl) (m_takesNumbers (m := 1) hR hT h8 h9 hp hb (by omega)) (fun g2 hp2 => ?_)
  obtain ⟨p', b', y1, y2, y3, y4, y5, y6, y7⟩ := hp2
  have y7 := y7 rfl
  rw [show cont t L 1 0 p = pNs t L 1 p from rfl] at y7
  have hR : MOk g2.2.2 := by rw [y1.1]; exact hR
  have e3 : ∀ j, g2.1 3 j = h.1 3 j := fun j => y1.2.1 _ _ (by omega) (by omega)
  cases hpn : pNs t L 1 p with
  | none => rw [hpn] at y7; exact TN _ hR y1.z (y1.2.2.2.trans y7) (resI_n (c := 117) hpn)
  | some r => rw [hpn] at y7; exact TS _ p' r hR y1.z e3 (y1.2.2.2.trans y7.1) y1.2.2.1 hpn y7.2.1 ⟨y2, y3⟩ (fun i hi => by have := y7.2.2 i (by omega); rw [Nat.zero_add] at this; exact this)
