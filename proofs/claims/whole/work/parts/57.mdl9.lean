/-! The model: reads, fault -/
def mrP (t : Nat → Int) (L p : Nat) (v : Nv) (g h' : Hp) (x : Int) : Prop := Mz g h' ∧ ∀ k, L < p + k → x = (pAll t L k p v).1 ∧ (x = -4 → GOk (h'.1 3) ∧ gV (h'.1 3) = (pAll t L k p v).2)
theorem Mz.tr {h g f : Hp} (a : Mz h g) (b : Mz g f) : Mz h f := ⟨b.1.trans a.1, fun i j x y z => (b.2 i j x y z).trans (a.2 i j x y z)⟩
theorem Mz.T {h g : Hp} {t : Nat → Int} {L : Nat} (a : Mz h g) (hT : MT h t L) : MT g t L := hT.c (a.2 _ _ (by omega) (by omega) (by omega)) (fun j => a.2 _ _ (by omega) (by omega) (by omega))
theorem m_reads {h : Hp} {t : Nat → Int} {L : Nat} (hR : MOk h.2.2) (hT : MT h t L) : Ev mX8_reads 5 0 (entL [.ref 0] 3) [] h (PI (fun x h' => mrP t L 0 v0 h h' x)) := by
  show Ev mX8_reads 5 0 [some (.ref 0), none, none] [] h _
  have hL2 := hT.2.1
  have LOOP : ∀ (m p : Nat) (g : Hp) (u w : Option Value), L - p = m → p ≤ L → MOk g.2.2 → MT g t L → g.1 0 8 = (p : Int) → GOk (g.1 3) → Ev mX8_reads 5 35 [some (.ref 0), u, w] [] g (PI (fun x h' => mrP t L p (gV (g.1 3)) g h' x)) := by
    intro m
    induction m using Nat.strongRecOn with
    | ind m ih =>
      intro p g u w hm hp hR hT g8 okg
      have hT' := hT
      have g2 := hT.1
      by_cases l : p < L
      · have h4 := hT.2.2 p l
        have eA : tA t L p = t p := if_pos l
        have hG : ∀ f, Mz g f → (∀ j, f.1 3 j = g.1 3 j) → GOk (f.1 3) ∧ gV (f.1 3) = gV (g.1 3) := fun f _ z => by rw [show f.1 3 = g.1 3 from funext z]; exact ⟨okg, rfl⟩
        have TAIL : ∀ (f : Hp), MOk f.2.2 → tkP t L (tA t L p) (p + 1) (gV (g.1 3)) g f → Ev mX8_reads 5 133 [some (.ref 0), some (iv (p : Int)), some (iv (t p))] [] f (PI (fun x h' => mrP t L p (gV (g.1 3)) g h' x)) := by
          intro f hR hk
          obtain ⟨mz, hx⟩ := hk
          have hpi : pItem t L p (gV (g.1 3)) = resI t L (tA t L p) (p + 1) (gV (g.1 3)) := rfl
          cases hre : resI t L (tA t L p) (p + 1) (gV (g.1 3)) with
          | none =>
            rw [hre] at hx hpi
            have hx : f.1 0 9 = 0 := hx
            refine Ev.aload_n dX8_reads_133 (Eq.refl 134) rfl ?_
            refine Ev.getI dX8_reads_134 (Eq.refl 137) fg_X8_83 rfl rfl ?_
            rw [hx]
            refine Ev.if_ne (tgt := 142) dX8_reads_137 (Eq.refl 140) (by decide) ⟨by omega, by omega⟩ (fun c137 => ?_) (fun c137 => ?_)
            · omega
            · refine Ev.iload_n dX8_reads_140 (Eq.refl 141) rfl ?_
              exact Ev.iret dX8_reads_141 rfl (⟨_, rfl, mz, fun k hk => by obtain ⟨j, rfl⟩ : ∃ j, k = j + 1 := ⟨k - 1, by omega⟩; unfold pAll; rw [if_pos l, hpi]; exact ⟨rfl, fun z => by omega⟩⟩)
          | some q =>
            rw [hre] at hx hpi
            obtain ⟨x9, x8, x1, x2, x3, x4⟩ := hx
            refine Ev.aload_n dX8_reads_133 (Eq.refl 134) rfl ?_
            refine Ev.getI dX8_reads_134 (Eq.refl 137) fg_X8_83 rfl rfl ?_
            rw [x9]
            refine Ev.if_ne (tgt := 142) dX8_reads_137 (Eq.refl 140) (by decide) ⟨by omega, by omega⟩ (fun c137 => ?_) (fun c137 => ?_)
            · refine Ev.goto' (pc' := 35) dX8_reads_142 (by decide) ?_
              refine Ev.mono (ih _ (by omega) q.1 f _ _ rfl x2 hR (mz.T hT') x8 x3) ?_
              rintro v h' ⟨x, rfl, mz2, hx2⟩
              refine ⟨x, rfl, mz.tr mz2, fun k hk => ?_⟩
              obtain ⟨j, rfl⟩ : ∃ j, k = j + 1 := ⟨k - 1, by omega⟩
              unfold pAll
              rw [if_pos l, hpi]
              have := hx2 j (by omega)
              rwa [x4] at this
            · omega
        obtain ⟨F, hF⟩ : ∃ F, F = hI (hI g 0 9 1) 0 8 ((p : Int) + 1) := ⟨_, rfl⟩
        have mF : Mz g F := by rw [hF]; exact (Mz.w (Mz.w ⟨rfl, fun _ _ _ _ _ => rfl⟩ (by omega)) (by omega))
        have F3 : F.1 3 = g.1 3 := by rw [hF]; exact funext fun j => by rw [hI_ni (by omega), hI_ni (by omega)]
        have F8 : F.1 0 8 = ((p + 1 : Nat) : Int) := by rw [hF, hI_eq]; push_cast; rfl
        have F9 : F.1 0 9 = 1 := by rw [hF, hI_nk (by omega), hI_eq]
        have RF : MOk F.2.2 := by rw [mF.1]; exact hR
        have TF : MT F t L := mF.T hT'
        have okF : GOk (F.1 3) := by rw [F3]; exact okg
        have fin : ∀ (c : Int) (f : Hp), t p = c → tkP t L c (p + 1) (gV (F.1 3)) F f → MOk f.2.2 ∧ tkP t L (tA t L p) (p + 1) (gV (g.1 3)) g f := fun c f hc k => by
          rw [F3] at k
          refine ⟨by rw [k.1.1]; exact RF, mF.tr k.1, ?_⟩
          rw [eA, hc]
          exact k.2
        refine Ev.aload_n dX8_reads_35 (Eq.refl 36) rfl ?_
        refine Ev.getI dX8_reads_36 (Eq.refl 39) fg_X8_80 rfl rfl ?_
        rw [g8]
        refine Ev.aload_n dX8_reads_39 (Eq.refl 40) rfl ?_
        refine Ev.getI dX8_reads_40 (Eq.refl 43) fg_X8_77 rfl rfl ?_
        rw [g2]
        refine Ev.icmp_ge (tgt := 145) dX8_reads_43 (Eq.refl 46) (by decide) ⟨by omega, by omega⟩ ⟨by omega, by omega⟩ (fun c43 => ?_) (fun c43 => ?_)
        · omega
        · refine Ev.aload_n dX8_reads_46 (Eq.refl 47) rfl ?_
          refine Ev.getI dX8_reads_47 (Eq.refl 50) fg_X8_80 rfl rfl ?_
          rw [g8]
          refine Ev.is1 dX8_reads_50 (Eq.refl 51) (by decide) rfl ?_
          refine Ev.aload_n dX8_reads_51 (Eq.refl 52) rfl ?_
          refine Ev.getR dX8_reads_52 (Eq.refl 55) fg_X8_7 rfl rfl (rX8_1 hR) ?_
          refine Ev.aload_n dX8_reads_55 (Eq.refl 56) rfl ?_
          refine Ev.getI dX8_reads_56 (Eq.refl 59) fg_X8_80 rfl rfl ?_
          rw [g8]
          refine Ev.baload dX8_reads_59 (Eq.refl 60) rfl rfl (by omega) (by decide) (by first | with_reducible exact Int.toNat_natCast _ | exact Eq.refl _) ?_
          rw [h4.1]
          refine Ev.is2 dX8_reads_60 (Eq.refl 61) (by decide) rfl ?_
          refine Ev.aload_n dX8_reads_61 (Eq.refl 62) rfl ?_
          refine Ev.iconst dX8_reads_62 (Eq.refl 63) ?_
          refine Ev.putI dX8_reads_63 (Eq.refl 66) fp_X8_83 rfl rfl (Or.inr ⟨rfl, by omega⟩) ?_
          refine Ev.aload_n dX8_reads_66 (Eq.refl 67) rfl ?_
          refine Ev.dupR dX8_reads_67 (Eq.refl 68) ?_
          refine Ev.getI dX8_reads_68 (Eq.refl 71) fg_X8_80 rfl rfl ?_
          rw [hI_nk (by omega), g8]
          refine Ev.iconst dX8_reads_71 (Eq.refl 72) ?_
          refine Ev.iadd dX8_reads_72 (Eq.refl 73) ?_
          refine Ev.putI dX8_reads_73 (Eq.refl 76) fp_X8_80 rfl rfl (Or.inl rfl) ?_
          rw [← hF]
          refine Ev.iload_n dX8_reads_76 (Eq.refl 77) rfl ?_
          refine Ev.bipush dX8_reads_77 (Eq.refl 79) (by decide) ?_
          refine Ev.icmp_ne (tgt := 89) dX8_reads_79 (Eq.refl 82) (by decide) ⟨by omega, by omega⟩ ⟨by omega, by omega⟩ (fun c79 => ?_) (fun c79 => ?_)
          · refine Ev.iload_n dX8_reads_89 (Eq.refl 90) rfl ?_
            refine Ev.bipush dX8_reads_90 (Eq.refl 92) (by decide) ?_
            refine Ev.icmp_ne (tgt := 102) dX8_reads_92 (Eq.refl 95) (by decide) ⟨by omega, by omega⟩ ⟨by omega, by omega⟩ (fun c92 => ?_) (fun c92 => ?_)
            · refine Ev.iload_n dX8_reads_102 (Eq.refl 103) rfl ?_
              refine Ev.bipush dX8_reads_103 (Eq.refl 105) (by decide) ?_
              refine Ev.icmp_ne (tgt := 115) dX8_reads_105 (Eq.refl 108) (by decide) ⟨by omega, by omega⟩ ⟨by omega, by omega⟩ (fun c105 => ?_) (fun c105 => ?_)
              · refine Ev.iload_n dX8_reads_115 (Eq.refl 116) rfl ?_
                refine Ev.bipush dX8_reads_116 (Eq.refl 118) (by decide) ?_
                refine Ev.icmp_ne (tgt := 128) dX8_reads_118 (Eq.refl 121) (by decide) ⟨by omega, by omega⟩ ⟨by omega, by omega⟩ (fun c118 => ?_) (fun c118 => ?_)
                · refine Ev.aload_n dX8_reads_128 (Eq.refl 129) rfl ?_
                  refine Ev.iconst dX8_reads_129 (Eq.refl 130) ?_
                  refine Ev.putI dX8_reads_130 (Eq.refl 133) fp_X8_83 rfl rfl (Or.inr ⟨rfl, by omega⟩) ?_
                  first | exact TAIL _ k1 k2 | exact TAIL (hI F 0 9 0) RF ⟨mF.w (by omega), by rw [resI_n (by rw [eA, show nOf (t p) = 0 from by unfold nOf; rw [if_neg c79, if_neg c92, if_neg c105, if_neg c118]]; rfl)]; exact hI_eq⟩
                · refine Ev.aload_n dX8_reads_121 (Eq.refl 122) rfl ?_
                  refine Ev.cv0V dX8_reads_122 (Eq.refl 125) cw_X8_122 (Nat.le_of_ble_eq_true rfl) (by decide) rfl rfl rfl (Nat.le_of_ble_eq_true rfl) (m_takesRolls RF TF F8 F9 (by omega) okF) (fun g122 hp122 => ?_)
                  obtain ⟨k1, k2⟩ := fin 114 _ c118 hp122
                  refine Ev.goto' (pc' := 133) dX8_reads_125 (by decide) ?_
                  first | exact TAIL _ k1 k2 | exact TAIL (hI F 0 9 0) RF ⟨mF.w (by omega), by rw [resI_n (by rw [eA, show nOf (t p) = 0 from by unfold nOf; rw [if_neg c79, if_neg c92, if_neg c105, if_neg c118]]; rfl)]; exact hI_eq⟩
              · refine Ev.aload_n dX8_reads_108 (Eq.refl 109) rfl ?_
                refine Ev.cv0V dX8_reads_109 (Eq.refl 112) cw_X8_119 (Nat.le_of_ble_eq_true rfl) (by decide) rfl rfl rfl (Nat.le_of_ble_eq_true rfl) (m_takesStrand RF TF F8 F9 (by omega) okF) (fun g109 hp109 => ?_)
                obtain ⟨k1, k2⟩ := fin 115 _ c105 hp109
                refine Ev.goto' (pc' := 133) dX8_reads_112 (by decide) ?_
                first | exact TAIL _ k1 k2 | exact TAIL (hI F 0 9 0) RF ⟨mF.w (by omega), by rw [resI_n (by rw [eA, show nOf (t p) = 0 from by unfold nOf; rw [if_neg c79, if_neg c92, if_neg c105, if_neg c118]]; rfl)]; exact hI_eq⟩
            · refine Ev.aload_n dX8_reads_95 (Eq.refl 96) rfl ?_
              refine Ev.cv0V dX8_reads_96 (Eq.refl 99) cw_X8_116 (Nat.le_of_ble_eq_true rfl) (by decide) rfl rfl rfl (Nat.le_of_ble_eq_true rfl) (m_takesFree RF TF F8 F9 (by omega) okF) (fun g96 hp96 => ?_)
              obtain ⟨k1, k2⟩ := fin 117 _ c92 hp96
              refine Ev.goto' (pc' := 133) dX8_reads_99 (by decide) ?_
              first | exact TAIL _ k1 k2 | exact TAIL (hI F 0 9 0) RF ⟨mF.w (by omega), by rw [resI_n (by rw [eA, show nOf (t p) = 0 from by unfold nOf; rw [if_neg c79, if_neg c92, if_neg c105, if_neg c118]]; rfl)]; exact hI_eq⟩
          · refine Ev.aload_n dX8_reads_82 (Eq.refl 83) rfl ?_
            refine Ev.cv0V dX8_reads_83 (Eq.refl 86) cw_X8_113 (Nat.le_of_ble_eq_true rfl) (by decide) rfl rfl rfl (Nat.le_of_ble_eq_true rfl) (m_takesFixed RF TF F8 F9 (by omega) okF) (fun g83 hp83 => ?_)
            obtain ⟨k1, k2⟩ := fin 102 _ c79 hp83
            refine Ev.goto' (pc' := 133) dX8_reads_86 (by decide) ?_
            first | exact TAIL _ k1 k2 | exact TAIL (hI F 0 9 0) RF ⟨mF.w (by omega), by rw [resI_n (by rw [eA, show nOf (t p) = 0 from by unfold nOf; rw [if_neg c79, if_neg c92, if_neg c105, if_neg c118]]; rfl)]; exact hI_eq⟩
      · have e : ¬ p < L := l
        refine Ev.aload_n dX8_reads_35 (Eq.refl 36) rfl ?_
        refine Ev.getI dX8_reads_36 (Eq.refl 39) fg_X8_80 rfl rfl ?_
        rw [g8]
        refine Ev.aload_n dX8_reads_39 (Eq.refl 40) rfl ?_
        refine Ev.getI dX8_reads_40 (Eq.refl 43) fg_X8_77 rfl rfl ?_
        rw [g2]
        refine Ev.icmp_ge (tgt := 145) dX8_reads_43 (Eq.refl 46) (by decide) ⟨by omega, by omega⟩ ⟨by omega, by omega⟩ (fun c43 => ?_) (fun c43 => ?_)
        · refine Ev.bipush dX8_reads_145 (Eq.refl 147) (by decide) ?_
          exact Ev.iret dX8_reads_147 rfl (⟨_, rfl, ⟨rfl, fun _ _ _ _ _ => rfl⟩, fun k hk => by obtain ⟨j, rfl⟩ : ∃ j, k = j + 1 := ⟨k - 1, by omega⟩; unfold pAll; rw [if_neg e]; exact ⟨rfl, fun _ => ⟨okg, rfl⟩⟩⟩)
        · omega
  obtain ⟨H, hH⟩ : ∃ H, H = hI (hI (hI (hI (hI h 3 0 0) 3 1 0) 3 2 40) 3 3 10) 0 8 0 := ⟨_, rfl⟩
  have mH : Mz h H := by rw [hH]; exact Mz.w (Mz.w (Mz.w (Mz.w (Mz.w ⟨rfl, fun _ _ _ _ _ => rfl⟩ (by omega)) (by omega)) (by omega)) (by omega)) (by omega)
  have H0 : H.1 3 0 = 0 := by rw [hH, hI_ni (by omega), hI_nk (by omega), hI_nk (by omega), hI_nk (by omega), hI_eq]
  have H1 : H.1 3 1 = 0 := by rw [hH, hI_ni (by omega), hI_nk (by omega), hI_nk (by omega), hI_eq]
  have H2 : H.1 3 2 = 40 := by rw [hH, hI_ni (by omega), hI_nk (by omega), hI_eq]
  have H3 : H.1 3 3 = 10 := by rw [hH, hI_ni (by omega), hI_eq]
  have H8 : H.1 0 8 = ((0 : Nat) : Int) := by rw [hH, hI_eq]; rfl
  have vH : gV (H.1 3) = v0 := by
    refine nv_ext ?_ ?_ (fun j => ?_) (fun j a => ?_) (fun j => ?_) (fun s => ?_) (fun s => ?_) (fun s => ?_) (fun s => ?_) (fun s => ?_) H2 H3
    · show (H.1 3 0).toNat = 0; rw [H0]; rfl
    · show (H.1 3 1).toNat = 0; rw [H1]; rfl
    · exact decide_eq_false (fun z => by have := z.1; omega)
    · exact if_neg (fun z => by have := z.1; omega)
    · exact if_neg (by omega)
    · exact if_neg (by omega)
    · exact if_neg (by omega)
    · exact if_neg (by omega)
    · exact if_neg (by omega)
    · exact decide_eq_false (fun z => by have := z.1; omega)
  have okH : GOk (H.1 3) := ⟨by omega, by omega, fun j hj => by omega, fun s hs => by omega, by rw [vH]; have := (cClr_VN (h := h) (n := 24)); rw [← this.1]; exact this.2.2.2.2.2.2⟩
  refine Ev.aload_n dX8_reads_0 (Eq.refl 1) rfl ?_
  refine Ev.getR dX8_reads_1 (Eq.refl 4) fg_X8_17 rfl rfl (rX8_4 hR) ?_
  refine Ev.iconst dX8_reads_4 (Eq.refl 5) ?_
  refine Ev.iconst dX8_reads_5 (Eq.refl 6) ?_
  refine Ev.iastore dX8_reads_6 (Eq.refl 7) rfl rfl (by omega) (by decide) (show (0 : Int).toNat = 0 from rfl) ?_
  refine Ev.aload_n dX8_reads_7 (Eq.refl 8) rfl ?_
  refine Ev.getR dX8_reads_8 (Eq.refl 11) fg_X8_17 rfl rfl (rX8_4 hR) ?_
  refine Ev.iconst dX8_reads_11 (Eq.refl 12) ?_
  refine Ev.iconst dX8_reads_12 (Eq.refl 13) ?_
  refine Ev.iastore dX8_reads_13 (Eq.refl 14) rfl rfl (by omega) (by decide) (show (1 : Int).toNat = 1 from rfl) ?_
  refine Ev.aload_n dX8_reads_14 (Eq.refl 15) rfl ?_
  refine Ev.getR dX8_reads_15 (Eq.refl 18) fg_X8_17 rfl rfl (rX8_4 hR) ?_
  refine Ev.iconst dX8_reads_18 (Eq.refl 19) ?_
  refine Ev.bipush dX8_reads_19 (Eq.refl 21) (by decide) ?_
  refine Ev.iastore dX8_reads_21 (Eq.refl 22) rfl rfl (by omega) (by decide) (show (2 : Int).toNat = 2 from rfl) ?_
  refine Ev.aload_n dX8_reads_22 (Eq.refl 23) rfl ?_
  refine Ev.getR dX8_reads_23 (Eq.refl 26) fg_X8_17 rfl rfl (rX8_4 hR) ?_
  refine Ev.iconst dX8_reads_26 (Eq.refl 27) ?_
  refine Ev.bipush dX8_reads_27 (Eq.refl 29) (by decide) ?_
  refine Ev.iastore dX8_reads_29 (Eq.refl 30) rfl rfl (by omega) (by decide) (show (3 : Int).toNat = 3 from rfl) ?_
  refine Ev.aload_n dX8_reads_30 (Eq.refl 31) rfl ?_
  refine Ev.iconst dX8_reads_31 (Eq.refl 32) ?_
  refine Ev.putI dX8_reads_32 (Eq.refl 35) fp_X8_80 rfl rfl (Or.inl rfl) ?_
  rw [← hH]
  refine Ev.mono (LOOP _ 0 H _ _ rfl (by omega) (show MOk H.2.2 by rw [mH.1]; exact hR) (mH.T hT) H8 okH) ?_
  rintro v h' ⟨x, rfl, mz2, hx2⟩
  rw [vH] at hx2
  exact ⟨x, rfl, mH.tr mz2, hx2⟩
theorem Mz.k {h g : Hp} (a : Mz h g) : Mk h g := ⟨by rw [a.1], fun j => a.2 _ _ (by omega) (by omega) (by omega), fun j => a.2 _ _ (by omega) (by omega) (by omega), fun j => a.2 _ _ (by omega) (by omega) (by omega), a.2 _ _ (by omega) (by omega) (by omega), a.2 _ _ (by omega) (by omega) (by omega)⟩
theorem m_fault {h : Hp} {s : St} (I : MInv h s) : Ev mX8_fault 6 0 (entL [.ref 0] 1) [] h (PM (aFault s)) := by
  show Ev mX8_fault 6 0 [some (.ref 0)] [] h _
  have I' := I
  obtain ⟨hR, ⟨ok, hV⟩, hT, hP⟩ := I
  have hT1 : MT (hI h 0 0 0) (sT s) (sL s) := hT.c (hI_nk (by omega)) (fun j => hI_ni (by omega))
  refine Ev.aload_n dX8_fault_0 (Eq.refl 1) rfl ?_
  refine Ev.iconst dX8_fault_1 (Eq.refl 2) ?_
  refine Ev.putI dX8_fault_2 (Eq.refl 5) fp_X8_69 rfl rfl (Or.inl rfl) ?_
  refine Ev.aload_n dX8_fault_5 (Eq.refl 6) rfl ?_
  refine Ev.cv0I dX8_fault_6 (Eq.refl 9) cw_X8_125 (Nat.le_of_ble_eq_true rfl) (by decide) rfl rfl rfl (Nat.le_of_ble_eq_true rfl) (m_reads (h := hI h 0 0 0) hR hT1) (fun x6 g6 hp6 => ?_)
  obtain ⟨mz, hx⟩ := hp6
  exact Ev.iret dX8_fault_9 rfl (⟨_, rfl, (hx (sL s + 1) (by omega)).1, (I'.k (Mk.rf.w (by omega))).k mz.k⟩)
