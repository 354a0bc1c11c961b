/-! The model: lay, small questions -/
theorem gExt {f g : Nat → Int} (e : ∀ i, i < 124 → f i = g i) (k : GOk g) : gV f = gV g ∧ GOk f := by
  have bJ := k.1
  have bS := k.2.1
  have a0 := e 0 (by omega)
  have a1 := e 1 (by omega)
  have hV : gV f = gV g := by
    refine nv_ext ?_ ?_ (fun j => ?_) (fun j a => ?_) (fun j => ?_) (fun s => ?_) (fun s => ?_) (fun s => ?_) (fun s => ?_) (fun s => ?_) (e 2 (by omega)) (e 3 (by omega))
    · show (f 0).toNat = (g 0).toNat; rw [a0]
    · show (f 1).toNat = (g 1).toNat; rw [a1]
    · show decide ((j : Int) < f 0 ∧ f (4 + j) = 1) = decide ((j : Int) < g 0 ∧ g (4 + j) = 1)
      rw [a0]
      by_cases l : (j : Int) < g 0
      · rw [e (4 + j) (by omega)]
      · rw [decide_eq_false (fun z => l z.1), decide_eq_false (fun z => l z.1)]
    · show (if (j : Int) < f 0 ∧ ¬ f (4 + j) = 1 ∧ a < 3 then f (14 + 3 * j + a) else 0) = if (j : Int) < g 0 ∧ ¬ g (4 + j) = 1 ∧ a < 3 then g (14 + 3 * j + a) else 0
      rw [a0]
      by_cases l : (j : Int) < g 0 ∧ a < 3
      · rw [e (4 + j) (by omega), e (14 + 3 * j + a) (by omega)]
      · rw [if_neg (fun z => l ⟨z.1, z.2.2⟩), if_neg (fun z => l ⟨z.1, z.2.2⟩)]
    · show (if (j : Int) < f 0 then f (44 + j) else 0) = if (j : Int) < g 0 then g (44 + j) else 0
      rw [a0]
      by_cases l : (j : Int) < g 0
      · rw [e (44 + j) (by omega)]
      · rw [if_neg l, if_neg l]
    · show (if (s : Int) < f 1 then (f (54 + 5 * s)).toNat else 0) = if (s : Int) < g 1 then (g (54 + 5 * s)).toNat else 0
      rw [a1]
      by_cases l : (s : Int) < g 1
      · rw [e (54 + 5 * s) (by omega)]
      · rw [if_neg l, if_neg l]
    · show (if (s : Int) < f 1 then (f (54 + 5 * s + 1)).toNat else 0) = if (s : Int) < g 1 then (g (54 + 5 * s + 1)).toNat else 0
      rw [a1]
      by_cases l : (s : Int) < g 1
      · rw [e (54 + 5 * s + 1) (by omega)]
      · rw [if_neg l, if_neg l]
    · show (if (s : Int) < f 1 then f (54 + 5 * s + 2) else 0) = if (s : Int) < g 1 then g (54 + 5 * s + 2) else 0
      rw [a1]
      by_cases l : (s : Int) < g 1
      · rw [e (54 + 5 * s + 2) (by omega)]
      · rw [if_neg l, if_neg l]
    · show (if (s : Int) < f 1 then f (54 + 5 * s + 3) else 0) = if (s : Int) < g 1 then g (54 + 5 * s + 3) else 0
      rw [a1]
      by_cases l : (s : Int) < g 1
      · rw [e (54 + 5 * s + 3) (by omega)]
      · rw [if_neg l, if_neg l]
    · show decide ((s : Int) < f 1 ∧ f (54 + 5 * s + 4) = 0) = decide ((s : Int) < g 1 ∧ g (54 + 5 * s + 4) = 0)
      rw [a1]
      by_cases l : (s : Int) < g 1
      · rw [e (54 + 5 * s + 4) (by omega)]
      · rw [decide_eq_false (fun z => l z.1), decide_eq_false (fun z => l z.1)]
  refine ⟨hV, by rw [a0]; exact bJ, by rw [a1]; exact bS, fun j hj => ?_, fun s hs => ?_, by rw [hV]; exact k.2.2.2.2⟩
  · rw [e (4 + j) (by omega)]; exact k.2.2.1 j (by rw [← a0]; exact hj)
  · rw [e (54 + 5 * s) (by omega), e (54 + 5 * s + 1) (by omega), e (54 + 5 * s + 4) (by omega), a0]; exact k.2.2.2.1 s (by rw [← a1]; exact hs)
theorem m_lay {h : Hp} {s : St} (I : MInv h s) : Ev mX8_lay 6 0 (entL [.ref 0] 2) [] h (PM (aLay s)) := by
  show Ev mX8_lay 6 0 [some (.ref 0), none] [] h _
  have I' := I
  obtain ⟨hR, ⟨ok, hV⟩, hT, hP⟩ := I
  have hT1 : MT (hI h 0 0 0) (sT s) (sL s) := hT.c (hI_nk (by omega)) (fun j => hI_ni (by omega))
  have e1 : ¬ ((rdA s).1 = -4 ∧ vJ (rdA s).2 ≠ 0) → aLay s = (-2, s) := fun q => if_neg q
  have e2 : (rdA s).1 = -4 ∧ vJ (rdA s).2 ≠ 0 → aLay s = ((vJ (rdA s).2 : Int), (sT s, sL s, (rdA s).2, 0, sP s)) := fun q => if_pos q
  have pr := pAll_r (t := sT s) (L := sL s) (sL s + 1) 0 v0
  have L2 : sL s ≤ 200 := hT.2.1
  have LOOP : ∀ (f0 : Nat → Int) (v : Nv), GOk f0 → gV f0 = v → aLay s = ((vJ v : Int), (sT s, sL s, v, 0, sP s)) → ∀ (m k : Nat) (g : Hp), 124 - k = m → k ≤ 124 → MOk g.2.2 → MT g (sT s) (sL s) → (∀ j, g.1 3 j = f0 j) → (∀ j, j < k → g.1 2 j = f0 j) → Ev mX8_lay 6 28 [some (.ref 0), some (iv (k : Int))] [] g (PM (aLay s)) := by
    intro f0 v okf hv e m
    have eJ := gJ okf
    rw [hv] at eJ
    induction m using Nat.strongRecOn with
    | ind m ih =>
      intro k g hm hk hR hT g3 g2
      by_cases l : k < 124
      · have ek := g3 k
        refine Ev.iload_n dX8_lay_28 (Eq.refl 29) rfl ?_
        refine Ev.bipush dX8_lay_29 (Eq.refl 31) (by decide) ?_
        refine Ev.icmp_ge (tgt := 52) dX8_lay_31 (Eq.refl 34) (by decide) ⟨by omega, by omega⟩ ⟨by omega, by omega⟩ (fun c31 => ?_) (fun c31 => ?_)
        · omega
        · refine Ev.aload_n dX8_lay_34 (Eq.refl 35) rfl ?_
          refine Ev.getR dX8_lay_35 (Eq.refl 38) fg_X8_13 rfl rfl (rX8_3 hR) ?_
          refine Ev.iload_n dX8_lay_38 (Eq.refl 39) rfl ?_
          refine Ev.aload_n dX8_lay_39 (Eq.refl 40) rfl ?_
          refine Ev.getR dX8_lay_40 (Eq.refl 43) fg_X8_17 rfl rfl (rX8_4 hR) ?_
          refine Ev.iload_n dX8_lay_43 (Eq.refl 44) rfl ?_
          refine Ev.iaload dX8_lay_44 (Eq.refl 45) rfl rfl (by omega) (by decide) (by first | with_reducible exact Int.toNat_natCast _ | exact Eq.refl _) ?_
          rw [ek]
          refine Ev.iastore dX8_lay_45 (Eq.refl 46) rfl rfl (by omega) (by decide) (by first | with_reducible exact Int.toNat_natCast _ | exact Eq.refl _) ?_
          refine Ev.ii1 dX8_lay_46 (Eq.refl 49) (by decide) rfl ?_
          refine Ev.goto' (pc' := 28) dX8_lay_49 (by decide) ?_
          exact ih _ (by omega) (k + 1) _ rfl (by omega) hR (hT.c (hI_ni (by omega)) (fun j => hI_ni (by omega))) (fun j => by rw [hI_ni (by omega)]; exact g3 j) (fun j hj => if e : j = k then by rw [e, hI_eq] else by rw [hI_nk e]; exact g2 j (by omega))
      · have hG := gExt (f := g.1 2) (g := f0) (fun i hi => g2 i (by omega)) okf
        refine Ev.iload_n dX8_lay_28 (Eq.refl 29) rfl ?_
        refine Ev.bipush dX8_lay_29 (Eq.refl 31) (by decide) ?_
        refine Ev.icmp_ge (tgt := 52) dX8_lay_31 (Eq.refl 34) (by decide) ⟨by omega, by omega⟩ ⟨by omega, by omega⟩ (fun c31 => ?_) (fun c31 => ?_)
        · refine Ev.aload_n dX8_lay_52 (Eq.refl 53) rfl ?_
          refine Ev.iconst dX8_lay_53 (Eq.refl 54) ?_
          refine Ev.putI dX8_lay_54 (Eq.refl 57) fp_X8_128 rfl rfl (Or.inl rfl) ?_
          refine Ev.aload_n dX8_lay_57 (Eq.refl 58) rfl ?_
          refine Ev.getR dX8_lay_58 (Eq.refl 61) fg_X8_13 rfl rfl (rX8_3 hR) ?_
          refine Ev.iconst dX8_lay_61 (Eq.refl 62) ?_
          refine Ev.iaload dX8_lay_62 (Eq.refl 63) rfl rfl (by omega) (by decide) (show (0 : Int).toNat = 0 from rfl) ?_
          rw [hI_ni (by omega), g2 0 (by omega), eJ]
          exact Ev.iret dX8_lay_63 rfl ((by rw [e]; exact ⟨_, rfl, rfl, hR, ⟨by rw [show (hI g 0 6 0).1 2 = g.1 2 from funext fun j => hI_ni (by omega)]; exact hG.2, by rw [show (hI g 0 6 0).1 2 = g.1 2 from funext fun j => hI_ni (by omega)]; exact hG.1.trans hv⟩, hT.c (hI_nk (by omega)) (fun j => hI_ni (by omega)), hI_eq, Nat.zero_le _, fun t ht => absurd ht (Nat.not_lt_zero t)⟩))
        · omega
  refine Ev.aload_n dX8_lay_0 (Eq.refl 1) rfl ?_
  refine Ev.iconst dX8_lay_1 (Eq.refl 2) ?_
  refine Ev.putI dX8_lay_2 (Eq.refl 5) fp_X8_69 rfl rfl (Or.inl rfl) ?_
  refine Ev.aload_n dX8_lay_5 (Eq.refl 6) rfl ?_
  refine Ev.cv0I dX8_lay_6 (Eq.refl 9) cw_X8_125 (Nat.le_of_ble_eq_true rfl) (by decide) rfl rfl rfl (Nat.le_of_ble_eq_true rfl) (m_reads (h := hI h 0 0 0) hR hT1) (fun x6 g6 hp6 => ?_)
  obtain ⟨mz, hx⟩ := hp6
  obtain ⟨q1, q2⟩ := hx (sL s + 1) (by omega)
  have bk : MInv g6 s := (I'.k (Mk.rf.w (by omega))).k mz.k
  have xb : -4 ≤ x6 ∧ x6 ≤ 200 := by rw [q1]; omega
  have q1 : x6 = (rdA s).1 := q1
  have hR2 : MOk g6.2.2 := by rw [mz.1]; exact hR
  have hR := hR2
  refine Ev.bipush dX8_lay_9 (Eq.refl 11) (by decide) ?_
  refine Ev.icmp_ne (tgt := 23) dX8_lay_11 (Eq.refl 14) (by decide) ⟨by omega, by omega⟩ ⟨by omega, by omega⟩ (fun c11 => ?_) (fun c11 => ?_)
  · have q := e1 (fun z => c11 (q1.trans z.1))
    refine Ev.bipush dX8_lay_23 (Eq.refl 25) (by decide) ?_
    exact Ev.iret dX8_lay_25 rfl ((by rw [q]; exact ⟨_, rfl, rfl, bk⟩))
  · obtain ⟨q3, q4⟩ := q2 c11
    have q4 : gV (g6.1 3) = (rdA s).2 := q4
    have eJ := gJ q3
    have bJ := q3.1
    rw [q4] at eJ
    refine Ev.aload_n dX8_lay_14 (Eq.refl 15) rfl ?_
    refine Ev.getR dX8_lay_15 (Eq.refl 18) fg_X8_17 rfl rfl (rX8_4 hR) ?_
    refine Ev.iconst dX8_lay_18 (Eq.refl 19) ?_
    refine Ev.iaload dX8_lay_19 (Eq.refl 20) rfl rfl (by omega) (by decide) (show (0 : Int).toNat = 0 from rfl) ?_
    refine Ev.if_ne (tgt := 26) dX8_lay_20 (Eq.refl 23) (by decide) ⟨by omega, by omega⟩ (fun c20 => ?_) (fun c20 => ?_)
    · have q := e2 ⟨q1.symm.trans c11, by omega⟩
      refine Ev.iconst dX8_lay_26 (Eq.refl 27) ?_
      refine Ev.is1 dX8_lay_27 (Eq.refl 28) (by decide) rfl ?_
      exact LOOP (g6.1 3) _ q3 q4 q _ 0 _ rfl (by omega) hR (mz.T hT1) (fun _ => rfl) (fun j hj => by omega)
    · have q := e1 (fun z => z.2 (by omega))
      refine Ev.bipush dX8_lay_23 (Eq.refl 25) (by decide) ?_
      exact Ev.iret dX8_lay_25 rfl ((by rw [q]; exact ⟨_, rfl, rfl, bk⟩))
