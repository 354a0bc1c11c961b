/-! Cutter: firstFit, leftOver -/
def inC (i : Nat) : Prop := 18 ≤ i ∧ i ≤ 23
abbrev Zr (v : Nv) : Int := 100 * vR v
def CutOk (h : Hp) (v : Nv) (P : Nat) (o : Nat → Nat) : Prop := P ≤ 14 ∧ h.1 18 4 = (P : Int) ∧ h.1 18 5 = Zr v ∧ h.1 18 6 = ((ff (Zr v) (xs v P o) P).2 : Int) ∧ (∀ r, r < (ff (Zr v) (xs v P o) P).2 → h.1 21 r = (ff (Zr v) (xs v P o) P).1 r) ∧ (∀ k, k < P → h.1 22 (o k) = (ffr (Zr v) (xs v P o) k : Int)) ∧ ∀ k, k < P → h.1 20 k = xs v P o k
def fitAll (v : Nv) : Prop := ∀ s, s < vS v → vH v s = true → szV v s ≤ Zr v
def ffP (v : Nv) (y : Int) (h' : Hp) : Prop := (¬ fitAll v ∧ y = 0) ∨ (fitAll v ∧ y = 1 ∧ ∃ P o, isOrd v P o ∧ CutOk h' v P o)
theorem c_firstFit {h : Hp} {n s : Nat} (hR : ROk h.2.2) (hn : isNet n) (hs : isShp s) (ok : NOk h n) (ha : aH (cV h n) (hgV (cV h n))) (hl : lns h s (cV h n)) : Ev mX0_firstFit 2 0 (entL [.ref 18, .ref n, .ref (s + 4)] 6) [] h (PI (fun y h' => Fr inC h h' ∧ ffP (cV h n) y h')) := by
  show Ev mX0_firstFit 2 0 [some (.ref 18), some (.ref n), some (.ref (s + 4)), none, none, none] [] h _
  have hv : VOk (cV h n) := ok.2.2.2.2.2
  have hS14 := hv.2.1
  have eSt := cV_S ok
  have eR : h.1 n 4 = vR (cV h n) := rfl
  have eE : h.1 n 5 = vE (cV h n) := rfl
  generalize hve : cV h n = v at *
  have bR := hv.2.2.2.2.2.2.2
  have zb : 100 ≤ Zr v ∧ Zr v ≤ 9900 := ⟨by show (100 : Int) ≤ 100 * vR v; omega, by show 100 * vR v ≤ 9900; omega⟩
  have LOOP : ∀ (P : Nat) (o : Nat → Nat), isOrd v P o → P ≤ vS v → ∀ (m k : Nat) (g : Hp) (a b : Option Value), P - k = m → k ≤ P → Fr inC h g → g.1 18 4 = (P : Int) → g.1 18 5 = Zr v → g.1 18 6 = ((ff (Zr v) (xs v P o) k).2 : Int) → (∀ r, r < (ff (Zr v) (xs v P o) k).2 → g.1 21 r = (ff (Zr v) (xs v P o) k).1 r) → (∀ i, i < k → g.1 22 (o i) = (ffr (Zr v) (xs v P o) i : Int)) → (∀ i, i < k → g.1 20 i = xs v P o i ∧ xs v P o i ≤ Zr v) → (∀ i, i < P → g.1 19 i = (o i : Int)) → Ev mX0_firstFit 2 24 [some (.ref 18), some (.ref n), some (.ref (s + 4)), some (iv (k : Int)), a, b] [] g (PI (fun y h' => Fr inC h h' ∧ ffP v y h')) := by
    intro P o ho hPS m
    have x0 := xs_0 hv ha ho
    generalize hX : xs v P o = X at *
    induction m using Nat.strongRecOn with
    | ind m ih =>
      intro k g a b hm hk hF h4 h5 h6 h21 h22 h20 h19
      have hR := hF.R hR
      by_cases hk2 : k < P
      · have ok_ := ho.1 k hk2
        have sb := szV_b hv ha ok_.1
        have eX : X k = szV v (o k) := by rw [← hX]; exact if_pos hk2
        have sm' := hF.same (n := n) (fun i h1 h2 => by unfold inC; omega)
        have g5 : g.1 n 5 = vE v := (sm' 0 (by omega) 5).trans eE
        have gl : g.1 (s + 4) (o k) = len v (o k) := by rw [hF.1 (s + 4) (by unfold inC; omega)]; exact hl _ ok_.1
        have inv := ff_inv (Z := Zr v) (x := X) k (by omega) (fun i hi => ⟨x0 i, (h20 i hi).2⟩)
        have lb := len_b hv ha ok_.1
        refine Ev.iload_n dX0_firstFit_24 (Eq.refl 25) rfl ?_
        refine Ev.aload_n dX0_firstFit_25 (Eq.refl 26) rfl ?_
        refine Ev.getI dX0_firstFit_26 (Eq.refl 29) fg_X0_43 rfl rfl ?_
        rw [h4]
        refine Ev.icmp_ge (tgt := 106) dX0_firstFit_29 (Eq.refl 32) (by decide) ⟨by omega, by omega⟩ ⟨by omega, by omega⟩ (fun c29 => ?_) (fun c29 => ?_)
        · omega
        · refine Ev.aload_n dX0_firstFit_32 (Eq.refl 33) rfl ?_
          refine Ev.getR dX0_firstFit_33 (Eq.refl 36) fg_X0_9 rfl rfl (rX0_0 hR) ?_
          refine Ev.iload_n dX0_firstFit_36 (Eq.refl 37) rfl ?_
          refine Ev.iaload dX0_firstFit_37 (Eq.refl 38) rfl rfl (by omega) (by decide) (by first | with_reducible exact Int.toNat_natCast _ | exact Eq.refl _) ?_
          rw [h19 k hk2]
          refine Ev.is4 dX0_firstFit_38 (Eq.refl 40) (by decide) rfl ?_
          refine Ev.aload_n dX0_firstFit_40 (Eq.refl 41) rfl ?_
          refine Ev.iload dX0_firstFit_41 (Eq.refl 43) rfl ?_
          refine Ev.iaload dX0_firstFit_43 (Eq.refl 44) (lyS4 (by assumption)) rfl (by omega) (by decide) (by first | with_reducible exact Int.toNat_natCast _ | exact Eq.refl _) ?_
          rw [gl]
          refine Ev.aload_n dX0_firstFit_44 (Eq.refl 45) rfl ?_
          refine Ev.getI dX0_firstFit_45 (Eq.refl 48) fg_X0_46 (lyN0 (by assumption)) rfl ?_
          rw [g5]
          refine Ev.iadd dX0_firstFit_48 (Eq.refl 49) ?_
          rw [show len v (o k) + vE v = X k from eX.symm]
          refine Ev.is5 dX0_firstFit_49 (Eq.refl 51) (by decide) rfl ?_
          refine Ev.iload dX0_firstFit_51 (Eq.refl 53) rfl ?_
          refine Ev.aload_n dX0_firstFit_53 (Eq.refl 54) rfl ?_
          refine Ev.getI dX0_firstFit_54 (Eq.refl 57) fg_X0_33 rfl rfl ?_
          rw [h5]
          refine Ev.icmp_le (tgt := 62) dX0_firstFit_57 (Eq.refl 60) (by decide) ⟨by omega, by omega⟩ ⟨by omega, by omega⟩ (fun c57 => ?_) (fun c57 => ?_)
          · have fr := ffr_le (Z := Zr v) (x := X) (k := k) (by omega) (fun i hi => if e : i = k then by rw [e]; exact ⟨x0 k, by omega⟩ else ⟨x0 i, (h20 i (by omega)).2⟩)
            have iv1 := ff_inv (Z := Zr v) (x := X) (k + 1) (by omega) (fun i hi => if e : i = k then by rw [e]; exact ⟨x0 k, by omega⟩ else ⟨x0 i, (h20 i (by omega)).2⟩)
            refine Ev.aload_n dX0_firstFit_62 (Eq.refl 63) rfl ?_
            refine Ev.getR dX0_firstFit_63 (Eq.refl 66) fg_X0_15 rfl rfl (rX0_1 hR) ?_
            refine Ev.iload_n dX0_firstFit_66 (Eq.refl 67) rfl ?_
            refine Ev.iload dX0_firstFit_67 (Eq.refl 69) rfl ?_
            refine Ev.iastore dX0_firstFit_69 (Eq.refl 70) rfl rfl (by omega) (by decide) (by first | with_reducible exact Int.toNat_natCast _ | exact Eq.refl _) ?_
            refine Ev.aload_n dX0_firstFit_70 (Eq.refl 71) rfl ?_
            refine Ev.getR dX0_firstFit_71 (Eq.refl 74) fg_X0_21 rfl rfl (rX0_3 hR) ?_
            refine Ev.iload dX0_firstFit_74 (Eq.refl 76) rfl ?_
            refine Ev.aload_n dX0_firstFit_76 (Eq.refl 77) rfl ?_
            refine Ev.iload dX0_firstFit_77 (Eq.refl 79) rfl ?_
            refine Ev.cv1I dX0_firstFit_79 (Eq.refl 82) cw_X0_49 (Nat.le_of_ble_eq_true rfl) (by decide) rfl rfl rfl (Nat.le_of_ble_eq_true rfl) (c_rollWith (h := hI g 20 k (X k)) (u := (ff (Zr v) X k).2) (L := (ff (Zr v) X k).1) (x := X k) (Z := Zr v) hR (by omega) (by rw [hI_ni (by omega)]; exact h6) (by rw [hI_ni (by omega)]; exact h5) (fun i hi => by rw [hI_ni (by omega)]; exact ⟨h21 i hi, inv.2.2.1 i (by omega)⟩) (inv.2.1 _ (Nat.le_refl _)) ⟨x0 k, by omega, by omega⟩) (fun x79 g79 hp79 => ?_)
            obtain ⟨ey, hF2, k4, k5, k6, k21⟩ := hp79
            subst ey
            have hR := hF2.R (by exact hR)
            have frl : ffr (Zr v) X k < (if (ff (Zr v) X k).2 < ffr (Zr v) X k + 1 then ffr (Zr v) X k + 1 else (ff (Zr v) X k).2) := fr.2.2
            have fru : (if (ff (Zr v) X k).2 < ffr (Zr v) X k + 1 then ffr (Zr v) X k + 1 else (ff (Zr v) X k).2) ≤ k + 1 := iv1.1
            have frl2 : lsf (ff (Zr v) X k).1 (X k) 14 < 14 := by show ffr (Zr v) X k < 14; omega
            refine Ev.iastore dX0_firstFit_82 (Eq.refl 83) rfl rfl (by omega) (by decide) (by first | with_reducible exact Int.toNat_natCast _ | exact Eq.refl _) ?_
            refine Ev.aload_n dX0_firstFit_83 (Eq.refl 84) rfl ?_
            refine Ev.getR dX0_firstFit_84 (Eq.refl 87) fg_X0_18 rfl rfl (rX0_2 hR) ?_
            refine Ev.aload_n dX0_firstFit_87 (Eq.refl 88) rfl ?_
            refine Ev.getR dX0_firstFit_88 (Eq.refl 91) fg_X0_21 rfl rfl (rX0_3 hR) ?_
            refine Ev.iload dX0_firstFit_91 (Eq.refl 93) rfl ?_
            refine Ev.iaload dX0_firstFit_93 (Eq.refl 94) rfl rfl (by omega) (by decide) (by first | with_reducible exact Int.toNat_natCast _ | exact Eq.refl _) ?_
            rw [hI_eq]
            refine Ev.dup2 dX0_firstFit_94 (Eq.refl 95) rfl rfl ?_
            refine Ev.iaload dX0_firstFit_95 (Eq.refl 96) rfl rfl (by omega) (by decide) (by first | with_reducible exact Int.toNat_natCast _ | exact Eq.refl _) ?_
            rw [hI_ni (by omega), k21 _ frl]
            refine Ev.iload dX0_firstFit_96 (Eq.refl 98) rfl ?_
            refine Ev.isub dX0_firstFit_98 (Eq.refl 99) ?_
            refine Ev.iastore dX0_firstFit_99 (Eq.refl 100) rfl rfl (by omega) (by decide) (by first | with_reducible exact Int.toNat_natCast _ | exact Eq.refl _) ?_
            refine Ev.ii3 dX0_firstFit_100 (Eq.refl 103) (by decide) rfl ?_
            refine Ev.goto' (pc' := 24) dX0_firstFit_103 (by decide) ?_
            exact ih _ (by omega) (k + 1) _ _ _ rfl (by omega) ((((hF.wI (show inC 20 from ⟨by omega, by omega⟩)).tr hF2 (U := inC) (fun _ z => z) (fun i z => by unfold inC; omega)).wI (show inC 22 from ⟨by omega, by omega⟩)).wI (show inC 21 from ⟨by omega, by omega⟩)) (by rw [hI_ni (by omega), hI_ni (by omega), k4, hI_ni (by omega)]; exact h4) (by rw [hI_ni (by omega), hI_ni (by omega)]; exact k5) (by rw [hI_ni (by omega), hI_ni (by omega)]; exact k6) (fun r hr => by rw [hI_rd]; show _ = up (ff (Zr v) X k).1 (ffr (Zr v) X k) ((ff (Zr v) X k).1 (ffr (Zr v) X k) - X k) r; unfold up; exact (if e : r = ffr (Zr v) X k then by rw [if_pos ⟨rfl, e⟩, if_pos e] else by rw [if_neg (fun z => e z.2), if_neg e, hI_ni (by omega)]; exact k21 r hr)) (fun i hi => by rw [hI_ni (by omega), hI_rd]; exact (if e : i = k then by rw [e, if_pos ⟨rfl, rfl⟩] else by rw [if_neg (fun z => e (isOrd_inj ho (by omega) hk2 z.2)), hF2.1 22 (by omega), hI_ni (by omega)]; exact h22 i (by omega))) (fun i hi => by rw [hI_ni (by omega), hI_ni (by omega), hF2.1 20 (by omega), hI_rd]; exact (if e : i = k then by rw [e, if_pos ⟨rfl, rfl⟩]; exact ⟨rfl, by omega⟩ else by rw [if_neg (fun z => e z.2)]; exact h20 i (by omega))) (fun i hi => by rw [hI_ni (by omega), hI_ni (by omega), hF2.1 19 (by omega), hI_ni (by omega)]; exact h19 i hi)
          · have hnf : ¬ fitAll v := fun z => by have := z (o k) ok_.1 ok_.2; omega
            refine Ev.iconst dX0_firstFit_60 (Eq.refl 61) ?_
            exact Ev.zret dX0_firstFit_61 rfl (by first | exact bi01 _ | exact Or.inl rfl | exact Or.inr rfl | omega) (⟨_, rfl, hF, Or.inl ⟨hnf, rfl⟩⟩)
      · have e : k = P := by omega
        subst e
        have hfit : fitAll v := fun t ht hh => by
          obtain ⟨i, hi, ei⟩ := ho.2.2 t ht hh
          have := (h20 i hi).2
          rw [← hX, show xs v k o i = szV v (o i) from if_pos hi, ei] at this
          exact this
        refine Ev.iload_n dX0_firstFit_24 (Eq.refl 25) rfl ?_
        refine Ev.aload_n dX0_firstFit_25 (Eq.refl 26) rfl ?_
        refine Ev.getI dX0_firstFit_26 (Eq.refl 29) fg_X0_43 rfl rfl ?_
        rw [h4]
        refine Ev.icmp_ge (tgt := 106) dX0_firstFit_29 (Eq.refl 32) (by decide) ⟨by omega, by omega⟩ ⟨by omega, by omega⟩ (fun c29 => ?_) (fun c29 => ?_)
        · refine Ev.iconst dX0_firstFit_106 (Eq.refl 107) ?_
          exact Ev.zret dX0_firstFit_107 rfl (by first | exact bi01 _ | exact Or.inl rfl | exact Or.inr rfl | omega) (⟨_, rfl, hF, Or.inr ⟨hfit, rfl, k, o, ho, by omega, h4, h5, by rw [hX]; exact h6, by rw [hX]; exact h21, by rw [hX]; exact h22, by rw [hX]; exact fun i hi => (h20 i hi).1⟩⟩)
        · omega
  refine Ev.aload_n dX0_firstFit_0 (Eq.refl 1) rfl ?_
  refine Ev.bipush dX0_firstFit_1 (Eq.refl 3) (by decide) ?_
  refine Ev.aload_n dX0_firstFit_3 (Eq.refl 4) rfl ?_
  refine Ev.getI dX0_firstFit_4 (Eq.refl 7) fg_X0_27 (lyN0 (by assumption)) rfl ?_
  rw [eR]
  refine Ev.imul dX0_firstFit_7 (Eq.refl 8) ?_
  refine Ev.putI dX0_firstFit_8 (Eq.refl 11) fp_X0_33 rfl rfl (Or.inl rfl) ?_
  refine Ev.aload_n dX0_firstFit_11 (Eq.refl 12) rfl ?_
  refine Ev.iconst dX0_firstFit_12 (Eq.refl 13) ?_
  refine Ev.putI dX0_firstFit_13 (Eq.refl 16) fp_X0_36 rfl rfl (Or.inl rfl) ?_
  refine Ev.aload_n dX0_firstFit_16 (Eq.refl 17) rfl ?_
  refine Ev.aload_n dX0_firstFit_17 (Eq.refl 18) rfl ?_
  refine Ev.aload_n dX0_firstFit_18 (Eq.refl 19) rfl ?_
  refine Ev.cv2V dX0_firstFit_19 (Eq.refl 22) cw_X0_39 (Nat.le_of_ble_eq_true rfl) (by decide) rfl rfl rfl (Nat.le_of_ble_eq_true rfl) (c_sort (h := hI (hI h 18 5 (100 * vR v)) 18 6 0) hR hn hs (sameN.ok (g := h) (fun a ha b => by rw [hI_ni (by omega), hI_ni (by omega)]) ok) (by rw [sameN.V (g := h) (n := n) (fun a ha b => by rw [hI_ni (by omega), hI_ni (by omega)]), hve]; exact ha) (by rw [sameN.V (g := h) (n := n) (fun a ha b => by rw [hI_ni (by omega), hI_ni (by omega)]), hve]; exact fun k hk => by rw [hI_ni (by omega), hI_ni (by omega)]; exact hl k hk)) (fun g19 hp19 => ?_)
  rw [sameN.V (g := h) (n := n) (fun a ha b => by rw [hI_ni (by omega), hI_ni (by omega)]), hve] at hp19
  obtain ⟨hF1, g5, g6, P, o, ho, hP, g4, g19⟩ := hp19
  refine Ev.iconst dX0_firstFit_22 (Eq.refl 23) ?_
  refine Ev.is3 dX0_firstFit_23 (Eq.refl 24) (by decide) rfl ?_
  exact LOOP P o ho hP _ 0 _ _ _ rfl (by omega) ((((Fr.rf (S := inC)).wI (show inC 18 from ⟨by omega, by omega⟩)).wI (show inC 18 from ⟨by omega, by omega⟩)).tr hF1 (U := inC) (fun _ z => z) (fun i z => by unfold inC; omega)) g4 (by rw [g5, hI_nk (by omega), hI_eq]) (by rw [g6, hI_eq]; rfl) (fun r hr => absurd hr (Nat.not_lt_zero r)) (fun i hi => by omega) (fun i hi => by omega) g19
theorem c_leftOver {h : Hp} {u : Nat} (hR : ROk h.2.2) (hu : u ≤ 14) (h6 : h.1 18 6 = (u : Int)) : Ev mX0_leftOver 0 0 (entL [.ref 18] 3) [] h (PE (sm (h.1 21) u) h) := by
  show Ev mX0_leftOver 0 0 [some (.ref 18), none, none] [] h _
  have LOOP : ∀ (m r : Nat), u - r = m → r ≤ u → Ev mX0_leftOver 0 4 [some (.ref 18), some (iv (sm (h.1 21) r)), some (iv (r : Int))] [] h (PE (sm (h.1 21) u) h) := by
    intro m
    induction m using Nat.strongRecOn with
    | ind m ih =>
      intro r hm hr
      refine Ev.iload_n dX0_leftOver_4 (Eq.refl 5) rfl ?_
      refine Ev.aload_n dX0_leftOver_5 (Eq.refl 6) rfl ?_
      refine Ev.getI dX0_leftOver_6 (Eq.refl 9) fg_X0_36 rfl rfl ?_
      rw [h6]
      refine Ev.icmp_ge (tgt := 27) dX0_leftOver_9 (Eq.refl 12) (by decide) ⟨by omega, by omega⟩ ⟨by omega, by omega⟩ (fun c9 => ?_) (fun c9 => ?_)
      · have e : r = u := by omega
        subst e
        refine Ev.iload_n dX0_leftOver_27 (Eq.refl 28) rfl ?_
        exact Ev.iret dX0_leftOver_28 rfl (PE.mk)
      · refine Ev.iload_n dX0_leftOver_12 (Eq.refl 13) rfl ?_
        refine Ev.aload_n dX0_leftOver_13 (Eq.refl 14) rfl ?_
        refine Ev.getR dX0_leftOver_14 (Eq.refl 17) fg_X0_18 rfl rfl (rX0_2 hR) ?_
        refine Ev.iload_n dX0_leftOver_17 (Eq.refl 18) rfl ?_
        refine Ev.iaload dX0_leftOver_18 (Eq.refl 19) rfl rfl (by omega) (by decide) (by first | with_reducible exact Int.toNat_natCast _ | exact Eq.refl _) ?_
        refine Ev.iadd dX0_leftOver_19 (Eq.refl 20) ?_
        refine Ev.is1 dX0_leftOver_20 (Eq.refl 21) (by decide) rfl ?_
        refine Ev.ii2 dX0_leftOver_21 (Eq.refl 24) (by decide) rfl ?_
        refine Ev.goto' (pc' := 4) dX0_leftOver_24 (by decide) ?_
        exact ih _ (by omega) (r + 1) rfl (by omega)
  refine Ev.iconst dX0_leftOver_0 (Eq.refl 1) ?_
  refine Ev.is1 dX0_leftOver_1 (Eq.refl 2) (by decide) rfl ?_
  refine Ev.iconst dX0_leftOver_2 (Eq.refl 3) ?_
  refine Ev.is2 dX0_leftOver_3 (Eq.refl 4) (by decide) rfl ?_
  exact LOOP _ 0 rfl (by omega)
