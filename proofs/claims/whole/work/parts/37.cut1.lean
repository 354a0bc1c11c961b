/-! Cutter: sortPieces, rollWith, firstFit, leftOver -/
def isOrdB (v : Nv) (K P : Nat) (o : Nat → Nat) : Prop := (∀ k, k < P → o k < K ∧ vH v (o k) = true) ∧ (∀ i j, i < j → j < P → bef v (o i) (o j)) ∧ ∀ s, s < K → vH v s = true → ∃ k, k < P ∧ o k = s
def insO (o : Nat → Nat) (q k i : Nat) : Nat := if i < q then o i else if i = q then k else o (i - 1)
theorem isOrdB_ins {v : Nv} {K P q : Nat} {o : Nat → Nat} (h : isOrdB v K P o) (hq : q ≤ P) (hK : vH v K = true) (h1 : ∀ i, q ≤ i → i < P → len v (o i) < len v K) (h2 : 0 < q → len v K ≤ len v (o (q - 1))) : isOrdB v (K + 1) (P + 1) (insO o q K) := by
  have h3 : ∀ i, i < q → bef v (o i) K := fun i hi => by
    have a := h2 (by omega)
    have b := (h.1 i (by omega)).1
    by_cases e : i = q - 1
    · rw [← e] at a; unfold bef; omega
    · have := h.2.1 i (q - 1) (by omega) (by omega)
      unfold bef at *; omega
  have h4 : ∀ i, q ≤ i → i < P → bef v K (o i) := fun i hi hp => Or.inl (h1 i hi hp)
  refine ⟨fun k hk => ?_, fun i j hij hj => ?_, fun s hs hh => ?_⟩
  · unfold insO
    by_cases e : k < q
    · rw [if_pos e]; have := h.1 k (by omega); exact ⟨by omega, this.2⟩
    · rw [if_neg e]
      by_cases e2 : k = q
      · rw [if_pos e2]; exact ⟨by omega, hK⟩
      · rw [if_neg e2]; have := h.1 (k - 1) (by omega); exact ⟨by omega, this.2⟩
  · unfold insO
    by_cases e : i < q
    · rw [if_pos e]
      by_cases e2 : j < q
      · rw [if_pos e2]; exact h.2.1 i j hij (by omega)
      · rw [if_neg e2]
        by_cases e3 : j = q
        · rw [if_pos e3]; exact h3 i e
        · rw [if_neg e3]; exact h.2.1 i (j - 1) (by omega) (by omega)
    · rw [if_neg e, if_neg (show ¬ j < q by omega), if_neg (show ¬ j = q by omega)]
      by_cases e3 : i = q
      · rw [if_pos e3]; exact h4 (j - 1) (by omega) (by omega)
      · rw [if_neg e3]; exact h.2.1 (i - 1) (j - 1) (by omega) (by omega)
  · by_cases e : s = K
    · exact ⟨q, by omega, by unfold insO; rw [if_neg (by omega), if_pos rfl, e]⟩
    · obtain ⟨k, hk, ek⟩ := h.2.2 s (by omega) hh
      by_cases l : k < q
      · exact ⟨k, by omega, by unfold insO; rw [if_pos l]; exact ek⟩
      · exact ⟨k + 1, by omega, by unfold insO; rw [if_neg (by omega), if_neg (by omega), Nat.add_sub_cancel]; exact ek⟩
theorem isOrdB_no {v : Nv} {K P : Nat} {o : Nat → Nat} (h : isOrdB v K P o) (hK : vH v K = false) : isOrdB v (K + 1) P o :=
  ⟨fun k hk => ⟨by have := (h.1 k hk).1; omega, (h.1 k hk).2⟩, h.2.1, fun s hs hh => h.2.2 s (by have : s ≠ K := (fun e => by rw [e, hK] at hh; cases hh); omega) hh⟩
def lns (h : Hp) (s : Nat) (v : Nv) : Prop := ∀ k, k < vS v → h.1 (s + 4) k = len v k
theorem c_sort {h : Hp} {n s : Nat} (hR : ROk h.2.2) (hn : isNet n) (hs : isShp s) (ok : NOk h n) (ha : aH (cV h n) (hgV (cV h n))) (hl : lns h s (cV h n)) : Ev mX0_sortPieces 1 0 (entL [.ref 18, .ref n, .ref (s + 4)] 5) [] h (PV (fun h' => Fr (fun i => i = 18 ∨ i = 19) h h' ∧ h'.1 18 5 = h.1 18 5 ∧ h'.1 18 6 = h.1 18 6 ∧ ∃ P o, isOrd (cV h n) P o ∧ P ≤ vS (cV h n) ∧ h'.1 18 4 = (P : Int) ∧ ∀ k, k < P → h'.1 19 k = (o k : Int))) := by
  show Ev mX0_sortPieces 1 0 [some (.ref 18), some (.ref n), some (.ref (s + 4)), none, none] [] h _
  have hv : VOk (cV h n) := ok.2.2.2.2.2
  have hS14 := hv.2.1
  have eSt := cV_S ok
  have hH := ok.2.2.2.1.1
  have hH2 := ok.f3
  have hhg := fun j => cV_H (s := j) ok
  generalize hve : cV h n = v at *
  have lb := fun (k : Nat) (hk : k < vS v) => len_b hv ha hk
  have OUT : ∀ (m K P : Nat) (o : Nat → Nat) (g : Hp) (a : Option Value), vS v - K = m → K ≤ vS v → P ≤ K → isOrdB v K P o → Fr (fun i => i = 18 ∨ i = 19) h g → g.1 18 5 = h.1 18 5 → g.1 18 6 = h.1 18 6 → g.1 18 4 = (P : Int) → (∀ k, k < P → g.1 19 k = (o k : Int)) → Ev mX0_sortPieces 1 7 [some (.ref 18), some (.ref n), some (.ref (s + 4)), some (iv (K : Int)), a] [] g (PV (fun h' => Fr (fun i => i = 18 ∨ i = 19) h h' ∧ h'.1 18 5 = h.1 18 5 ∧ h'.1 18 6 = h.1 18 6 ∧ ∃ P o, isOrd v P o ∧ P ≤ vS v ∧ h'.1 18 4 = (P : Int) ∧ ∀ k, k < P → h'.1 19 k = (o k : Int))) := by
    intro m
    induction m using Nat.strongRecOn with
    | ind m ih =>
      intro K P o g a hm hK hP ho hF h5 h6 h4 h19
      have IN : K < vS v → vH v K = true → ∀ (q : Nat) (g : Hp), q ≤ P → Fr (fun i => i = 18 ∨ i = 19) h g → g.1 18 5 = h.1 18 5 → g.1 18 6 = h.1 18 6 → g.1 18 4 = (P : Int) → (∀ k, k < q → g.1 19 k = (o k : Int)) → (∀ k, q ≤ k → k < P → g.1 19 (k + 1) = (o k : Int) ∧ len v (o k) < len v K) → Ev mX0_sortPieces 1 32 [some (.ref 18), some (.ref n), some (.ref (s + 4)), some (iv (K : Int)), some (iv (q : Int))] [] g (PV (fun h' => Fr (fun i => i = 18 ∨ i = 19) h h' ∧ h'.1 18 5 = h.1 18 5 ∧ h'.1 18 6 = h.1 18 6 ∧ ∃ P o, isOrd v P o ∧ P ≤ vS v ∧ h'.1 18 4 = (P : Int) ∧ ∀ k, k < P → h'.1 19 k = (o k : Int))) := by
        intro hK2 hKH q
        have lK := lb K hK2
        induction q with
        | zero =>
          intro g hq hF h5 h6 h4 h19 hsh
          have hR := hF.R hR
          have ins := isOrdB_ins (q := 0) ho (by omega) hKH (fun i h1 h2 => (hsh i h1 h2).2) (fun z => by omega)
          refine Ev.iload dX0_sortPieces_32 (Eq.refl 34) rfl ?_
          refine Ev.if_le (tgt := 76) dX0_sortPieces_34 (Eq.refl 37) (by decide) ⟨by omega, by omega⟩ (fun c34 => ?_) (fun c34 => ?_)
          · refine Ev.aload_n dX0_sortPieces_76 (Eq.refl 77) rfl ?_
            refine Ev.getR dX0_sortPieces_77 (Eq.refl 80) fg_X0_9 rfl rfl (rX0_0 hR) ?_
            refine Ev.iload dX0_sortPieces_80 (Eq.refl 82) rfl ?_
            refine Ev.iload_n dX0_sortPieces_82 (Eq.refl 83) rfl ?_
            refine Ev.iastore dX0_sortPieces_83 (Eq.refl 84) rfl rfl (by omega) (by decide) (by first | with_reducible exact Int.toNat_natCast _ | exact Eq.refl _) ?_
            refine Ev.aload_n dX0_sortPieces_84 (Eq.refl 85) rfl ?_
            refine Ev.dupR dX0_sortPieces_85 (Eq.refl 86) ?_
            refine Ev.getI dX0_sortPieces_86 (Eq.refl 89) fg_X0_43 rfl rfl ?_
            rw [hI_ni (by omega), h4]
            refine Ev.iconst dX0_sortPieces_89 (Eq.refl 90) ?_
            refine Ev.iadd dX0_sortPieces_90 (Eq.refl 91) ?_
            refine Ev.putI dX0_sortPieces_91 (Eq.refl 94) fp_X0_43 rfl rfl (Or.inl rfl) ?_
            refine Ev.ii3 dX0_sortPieces_94 (Eq.refl 97) (by decide) rfl ?_
            refine Ev.goto' (pc' := 7) dX0_sortPieces_97 (by decide) ?_
            exact ih _ (by omega) (K + 1) (P + 1) _ _ _ rfl (by omega) (by omega) ins ((hF.wI (Or.inr rfl)).wI (Or.inl rfl)) (by rw [hI_nk (by omega), hI_ni (by omega)]; exact h5) (by rw [hI_nk (by omega), hI_ni (by omega)]; exact h6) (by rw [hI_eq]; push_cast; rfl) (fun k hk => by rw [hI_ni (by omega), hI_rd]; unfold insO; exact (if e : k = 0 then by rw [if_pos ⟨rfl, e⟩, if_neg (by omega), if_pos e] else by rw [if_neg (fun z => e z.2), if_neg (by omega), if_neg e]; have := (hsh (k - 1) (by omega) (by omega)).1; rw [show k - 1 + 1 = k by omega] at this; exact this))
          · omega
        | succ q iq =>
          intro g hq hF h5 h6 h4 h19 hsh
          have hR := hF.R hR
          have oq := ho.1 q (by omega)
          have lq := lb (o q) (by omega)
          have e1 : ((q + 1 : Nat) : Int) - 1 = (q : Int) := by push_cast; omega
          have gl : ∀ k, k < vS v → g.1 (s + 4) k = len v k := fun k hk => by rw [hF.1 (s + 4) (by omega)]; exact hl k hk
          refine Ev.iload dX0_sortPieces_32 (Eq.refl 34) rfl ?_
          refine Ev.if_le (tgt := 76) dX0_sortPieces_34 (Eq.refl 37) (by decide) ⟨by omega, by omega⟩ (fun c34 => ?_) (fun c34 => ?_)
          · omega
          · refine Ev.aload_n dX0_sortPieces_37 (Eq.refl 38) rfl ?_
            refine Ev.aload_n dX0_sortPieces_38 (Eq.refl 39) rfl ?_
            refine Ev.getR dX0_sortPieces_39 (Eq.refl 42) fg_X0_9 rfl rfl (rX0_0 hR) ?_
            refine Ev.iload dX0_sortPieces_42 (Eq.refl 44) rfl ?_
            refine Ev.iconst dX0_sortPieces_44 (Eq.refl 45) ?_
            refine Ev.isub dX0_sortPieces_45 (Eq.refl 46) ?_
            rw [e1]
            refine Ev.iaload dX0_sortPieces_46 (Eq.refl 47) rfl rfl (by omega) (by decide) (by first | with_reducible exact Int.toNat_natCast _ | exact Eq.refl _) ?_
            rw [h19 q (by omega)]
            refine Ev.iaload dX0_sortPieces_47 (Eq.refl 48) (lyS4 (by assumption)) rfl (by omega) (by decide) (by first | with_reducible exact Int.toNat_natCast _ | exact Eq.refl _) ?_
            rw [gl _ (by omega)]
            refine Ev.aload_n dX0_sortPieces_48 (Eq.refl 49) rfl ?_
            refine Ev.iload_n dX0_sortPieces_49 (Eq.refl 50) rfl ?_
            refine Ev.iaload dX0_sortPieces_50 (Eq.refl 51) (lyS4 (by assumption)) rfl (by omega) (by decide) (by first | with_reducible exact Int.toNat_natCast _ | exact Eq.refl _) ?_
            rw [gl _ hK2]
            refine Ev.icmp_ge (tgt := 76) dX0_sortPieces_51 (Eq.refl 54) (by decide) ⟨by omega, by omega⟩ ⟨by omega, by omega⟩ (fun c51 => ?_) (fun c51 => ?_)
            · have ins := isOrdB_ins (q := q + 1) ho (by omega) hKH (fun i h1 h2 => (hsh i h1 h2).2) (fun z => by rw [Nat.add_sub_cancel]; omega)
              refine Ev.aload_n dX0_sortPieces_76 (Eq.refl 77) rfl ?_
              refine Ev.getR dX0_sortPieces_77 (Eq.refl 80) fg_X0_9 rfl rfl (rX0_0 hR) ?_
              refine Ev.iload dX0_sortPieces_80 (Eq.refl 82) rfl ?_
              refine Ev.iload_n dX0_sortPieces_82 (Eq.refl 83) rfl ?_
              refine Ev.iastore dX0_sortPieces_83 (Eq.refl 84) rfl rfl (by omega) (by decide) (by first | with_reducible exact Int.toNat_natCast _ | exact Eq.refl _) ?_
              refine Ev.aload_n dX0_sortPieces_84 (Eq.refl 85) rfl ?_
              refine Ev.dupR dX0_sortPieces_85 (Eq.refl 86) ?_
              refine Ev.getI dX0_sortPieces_86 (Eq.refl 89) fg_X0_43 rfl rfl ?_
              rw [hI_ni (by omega), h4]
              refine Ev.iconst dX0_sortPieces_89 (Eq.refl 90) ?_
              refine Ev.iadd dX0_sortPieces_90 (Eq.refl 91) ?_
              refine Ev.putI dX0_sortPieces_91 (Eq.refl 94) fp_X0_43 rfl rfl (Or.inl rfl) ?_
              refine Ev.ii3 dX0_sortPieces_94 (Eq.refl 97) (by decide) rfl ?_
              refine Ev.goto' (pc' := 7) dX0_sortPieces_97 (by decide) ?_
              exact ih _ (by omega) (K + 1) (P + 1) _ _ _ rfl (by omega) (by omega) ins ((hF.wI (Or.inr rfl)).wI (Or.inl rfl)) (by rw [hI_nk (by omega), hI_ni (by omega)]; exact h5) (by rw [hI_nk (by omega), hI_ni (by omega)]; exact h6) (by rw [hI_eq]; push_cast; rfl) (fun k hk => by rw [hI_ni (by omega), hI_rd]; unfold insO; exact (if e : k = q + 1 then by rw [if_pos ⟨rfl, e⟩, if_neg (by omega), if_pos e] else if e2 : k < q + 1 then by rw [if_neg (fun z => e z.2), if_pos e2]; exact h19 k e2 else by rw [if_neg (fun z => e z.2), if_neg e2, if_neg e]; have := (hsh (k - 1) (by omega) (by omega)).1; rw [show k - 1 + 1 = k by omega] at this; exact this))
            · refine Ev.aload_n dX0_sortPieces_54 (Eq.refl 55) rfl ?_
              refine Ev.getR dX0_sortPieces_55 (Eq.refl 58) fg_X0_9 rfl rfl (rX0_0 hR) ?_
              refine Ev.iload dX0_sortPieces_58 (Eq.refl 60) rfl ?_
              refine Ev.aload_n dX0_sortPieces_60 (Eq.refl 61) rfl ?_
              refine Ev.getR dX0_sortPieces_61 (Eq.refl 64) fg_X0_9 rfl rfl (rX0_0 hR) ?_
              refine Ev.iload dX0_sortPieces_64 (Eq.refl 66) rfl ?_
              refine Ev.iconst dX0_sortPieces_66 (Eq.refl 67) ?_
              refine Ev.isub dX0_sortPieces_67 (Eq.refl 68) ?_
              rw [e1]
              refine Ev.iaload dX0_sortPieces_68 (Eq.refl 69) rfl rfl (by omega) (by decide) (by first | with_reducible exact Int.toNat_natCast _ | exact Eq.refl _) ?_
              rw [h19 q (by omega)]
              refine Ev.iastore dX0_sortPieces_69 (Eq.refl 70) rfl rfl (by omega) (by decide) (by first | with_reducible exact Int.toNat_natCast _ | exact Eq.refl _) ?_
              refine Ev.ii4 dX0_sortPieces_70 (Eq.refl 73) (by decide) rfl ?_
              rw [show ((q + 1 : Nat) : Int) + -1 = (q : Int) by push_cast; omega]
              refine Ev.goto' (pc' := 32) dX0_sortPieces_73 (by decide) ?_
              exact iq _ (by omega) (hF.wI (Or.inr rfl)) (by rw [hI_ni (by omega)]; exact h5) (by rw [hI_ni (by omega)]; exact h6) (by rw [hI_ni (by omega)]; exact h4) (fun k hk => by rw [hI_nk (by omega)]; exact h19 k (by omega)) (fun k hk hk2 => if e : k = q then by rw [e, hI_eq]; exact ⟨rfl, by omega⟩ else by rw [hI_nk (by omega)]; exact hsh k (by omega) hk2)
      have hR := hF.R hR
      have sm' := hF.same (n := n) (fun i h1 h2 => by omega)
      have g2 : g.1 n 2 = (vS v : Int) := (sm' 0 (by omega) 2).trans eSt
      have g3 : g.1 n 3 = h.1 n 3 := sm' 0 (by omega) 3
      refine Ev.iload_n dX0_sortPieces_7 (Eq.refl 8) rfl ?_
      refine Ev.aload_n dX0_sortPieces_8 (Eq.refl 9) rfl ?_
      refine Ev.getI dX0_sortPieces_9 (Eq.refl 12) fg_X0_53 (lyN0 (by assumption)) rfl ?_
      rw [g2]
      refine Ev.icmp_ge (tgt := 100) dX0_sortPieces_12 (Eq.refl 15) (by decide) ⟨by omega, by omega⟩ ⟨by omega, by omega⟩ (fun c12 => ?_) (fun c12 => ?_)
      · have e : K = vS v := by omega
        subst e
        exact Ev.vret dX0_sortPieces_100 rfl (⟨rfl, hF, h5, h6, P, o, ho, hP, h4, h19⟩)
      · have hK2 : K < vS v := by omega
        refine Ev.aload_n dX0_sortPieces_15 (Eq.refl 16) rfl ?_
        refine Ev.iload_n dX0_sortPieces_16 (Eq.refl 17) rfl ?_
        refine Ev.cv1E dX0_sortPieces_17 (Eq.refl 20) cw_X0_56 (Nat.le_of_ble_eq_true rfl) (by decide) (lyN0 (by assumption)) rfl rfl (Nat.le_of_ble_eq_true rfl) (c_hangs (by assumption) (by omega) (by omega)) ?_
        rw [g3, Int.toNat_natCast]
        refine Ev.if_neB (tgt := 26) dX0_sortPieces_20 (Eq.refl 23) (by decide) (fun c20 => ?_) (fun c20 => ?_)
        · have hKH := (hhg K).mp c20
          refine Ev.aload_n dX0_sortPieces_26 (Eq.refl 27) rfl ?_
          refine Ev.getI dX0_sortPieces_27 (Eq.refl 30) fg_X0_43 rfl rfl ?_
          rw [h4]
          refine Ev.is4 dX0_sortPieces_30 (Eq.refl 32) (by decide) rfl ?_
          exact IN hK2 hKH P _ (Nat.le_refl P) hF h5 h6 h4 h19 (fun k h1 h2 => by omega)
        · have hnh : vH v K = false := by cases q : vH v K with | false => rfl | true => exact absurd ((hhg K).mpr q) c20
          refine Ev.goto' (pc' := 94) dX0_sortPieces_23 (by decide) ?_
          refine Ev.ii3 dX0_sortPieces_94 (Eq.refl 97) (by decide) rfl ?_
          refine Ev.goto' (pc' := 7) dX0_sortPieces_97 (by decide) ?_
          exact ih _ (by omega) (K + 1) P o _ _ rfl (by omega) (by omega) (isOrdB_no ho hnh) hF h5 h6 h4 h19
  refine Ev.aload_n dX0_sortPieces_0 (Eq.refl 1) rfl ?_
  refine Ev.iconst dX0_sortPieces_1 (Eq.refl 2) ?_
  refine Ev.putI dX0_sortPieces_2 (Eq.refl 5) fp_X0_43 rfl rfl (Or.inl rfl) ?_
  refine Ev.iconst dX0_sortPieces_5 (Eq.refl 6) ?_
  refine Ev.is3 dX0_sortPieces_6 (Eq.refl 7) (by decide) rfl ?_
  exact OUT _ 0 0 (fun _ => 0) _ _ rfl (by omega) (by omega) ⟨fun k hk => by omega, fun i j _ hj => by omega, fun s hs => by omega⟩ (Fr.rf.wI (Or.inl rfl)) (by rw [hI_nk (by omega)]) (by rw [hI_nk (by omega)]) (by rw [hI_eq]; rfl) (fun k hk => by omega)
theorem c_rollWith {h : Hp} {u : Nat} {L : Nat → Int} {x Z : Int} (hR : ROk h.2.2) (hu : u ≤ 13) (h6 : h.1 18 6 = (u : Int)) (h5 : h.1 18 5 = Z) (hL : ∀ i, i < u → h.1 21 i = L i ∧ 0 ≤ L i ∧ L i ≤ Z) (hLu : L u = Z) (hx : 0 ≤ x ∧ x ≤ Z ∧ Z ≤ 9900) : Ev mX0_rollWith 1 0 (entL [.ref 18, iv x] 3) [] h (PI (fun y h' => y = (lsf L x 14 : Int) ∧ Fr (fun i => i = 18 ∨ i = 21) h h' ∧ h'.1 18 4 = h.1 18 4 ∧ h'.1 18 5 = Z ∧ h'.1 18 6 = ((if u < lsf L x 14 + 1 then lsf L x 14 + 1 else u : Nat) : Int) ∧ ∀ i, i < (if u < lsf L x 14 + 1 then lsf L x 14 + 1 else u) → h'.1 21 i = L i)) := by
  show Ev mX0_rollWith 1 0 [some (.ref 18), some (iv x), none] [] h _
  have LOOP : ∀ (m r : Nat), u - r = m → r ≤ u → (∀ i, i < r → L i < x) → Ev mX0_rollWith 1 2 [some (.ref 18), some (iv x), some (iv (r : Int))] [] h (PI (fun y h' => y = (lsf L x 14 : Int) ∧ Fr (fun i => i = 18 ∨ i = 21) h h' ∧ h'.1 18 4 = h.1 18 4 ∧ h'.1 18 5 = Z ∧ h'.1 18 6 = ((if u < lsf L x 14 + 1 then lsf L x 14 + 1 else u : Nat) : Int) ∧ ∀ i, i < (if u < lsf L x 14 + 1 then lsf L x 14 + 1 else u) → h'.1 21 i = L i)) := by
    intro m
    induction m using Nat.strongRecOn with
    | ind m ih =>
      intro r hm hr hx2
      by_cases hr2 : r < u
      · have hLr := hL r hr2
        refine Ev.iload_n dX0_rollWith_2 (Eq.refl 3) rfl ?_
        refine Ev.aload_n dX0_rollWith_3 (Eq.refl 4) rfl ?_
        refine Ev.getI dX0_rollWith_4 (Eq.refl 7) fg_X0_36 rfl rfl ?_
        rw [h6]
        refine Ev.icmp_ge (tgt := 28) dX0_rollWith_7 (Eq.refl 10) (by decide) ⟨by omega, by omega⟩ ⟨by omega, by omega⟩ (fun c7 => ?_) (fun c7 => ?_)
        · omega
        · refine Ev.aload_n dX0_rollWith_10 (Eq.refl 11) rfl ?_
          refine Ev.getR dX0_rollWith_11 (Eq.refl 14) fg_X0_18 rfl rfl (rX0_2 hR) ?_
          refine Ev.iload_n dX0_rollWith_14 (Eq.refl 15) rfl ?_
          refine Ev.iaload dX0_rollWith_15 (Eq.refl 16) rfl rfl (by omega) (by decide) (by first | with_reducible exact Int.toNat_natCast _ | exact Eq.refl _) ?_
          rw [hLr.1]
          refine Ev.iload_n dX0_rollWith_16 (Eq.refl 17) rfl ?_
          refine Ev.icmp_lt (tgt := 22) dX0_rollWith_17 (Eq.refl 20) (by decide) ⟨by omega, by omega⟩ ⟨by omega, by omega⟩ (fun c17 => ?_) (fun c17 => ?_)
          · refine Ev.ii2 dX0_rollWith_22 (Eq.refl 25) (by decide) rfl ?_
            refine Ev.goto' (pc' := 2) dX0_rollWith_25 (by decide) ?_
            exact ih _ (by omega) (r + 1) rfl (by omega) (fun i hi => if e : i = r then by rw [e]; omega else hx2 i (by omega))
          · have el := lsf_of (L := L) (x := x) (r := r) 14 (by omega) hx2 (by omega)
            refine Ev.iload_n dX0_rollWith_20 (Eq.refl 21) rfl ?_
            exact Ev.iret dX0_rollWith_21 rfl (⟨_, rfl, by rw [el], Fr.rf, rfl, h5, by rw [el, if_neg (by omega)]; exact h6, fun i hi => by rw [el, if_neg (by omega)] at hi; exact (hL i hi).1⟩)
      · have e : r = u := by omega
        subst e
        have el := lsf_of (L := L) (x := x) (r := r) 14 (by omega) hx2 (by omega)
        refine Ev.iload_n dX0_rollWith_2 (Eq.refl 3) rfl ?_
        refine Ev.aload_n dX0_rollWith_3 (Eq.refl 4) rfl ?_
        refine Ev.getI dX0_rollWith_4 (Eq.refl 7) fg_X0_36 rfl rfl ?_
        rw [h6]
        refine Ev.icmp_ge (tgt := 28) dX0_rollWith_7 (Eq.refl 10) (by decide) ⟨by omega, by omega⟩ ⟨by omega, by omega⟩ (fun c7 => ?_) (fun c7 => ?_)
        · refine Ev.aload_n dX0_rollWith_28 (Eq.refl 29) rfl ?_
          refine Ev.getI dX0_rollWith_29 (Eq.refl 32) fg_X0_36 rfl rfl ?_
          rw [h6]
          refine Ev.bipush dX0_rollWith_32 (Eq.refl 34) (by decide) ?_
          refine Ev.mmin dX0_rollWith_34 (Eq.refl 37) wm_X0_60 (by decide) (Nat.le_of_ble_eq_true rfl) ⟨by omega, by omega⟩ ⟨by omega, by omega⟩ ?_
          rw [if_neg (show ¬ (13 : Int) < (r : Int) by omega)]
          refine Ev.is2 dX0_rollWith_37 (Eq.refl 38) (by decide) rfl ?_
          refine Ev.aload_n dX0_rollWith_38 (Eq.refl 39) rfl ?_
          refine Ev.getR dX0_rollWith_39 (Eq.refl 42) fg_X0_18 rfl rfl (rX0_2 hR) ?_
          refine Ev.iload_n dX0_rollWith_42 (Eq.refl 43) rfl ?_
          refine Ev.aload_n dX0_rollWith_43 (Eq.refl 44) rfl ?_
          refine Ev.getI dX0_rollWith_44 (Eq.refl 47) fg_X0_33 rfl rfl ?_
          rw [h5]
          refine Ev.iastore dX0_rollWith_47 (Eq.refl 48) rfl rfl (by omega) (by decide) (by first | with_reducible exact Int.toNat_natCast _ | exact Eq.refl _) ?_
          refine Ev.aload_n dX0_rollWith_48 (Eq.refl 49) rfl ?_
          refine Ev.iload_n dX0_rollWith_49 (Eq.refl 50) rfl ?_
          refine Ev.iconst dX0_rollWith_50 (Eq.refl 51) ?_
          refine Ev.iadd dX0_rollWith_51 (Eq.refl 52) ?_
          refine Ev.putI dX0_rollWith_52 (Eq.refl 55) fp_X0_36 rfl rfl (Or.inl rfl) ?_
          refine Ev.iload_n dX0_rollWith_55 (Eq.refl 56) rfl ?_
          exact Ev.iret dX0_rollWith_56 rfl (⟨_, rfl, by rw [el], (Fr.rf.wI (Or.inr rfl)).wI (Or.inl rfl), by rw [hI_nk (by omega), hI_ni (by omega)], by rw [hI_nk (by omega), hI_ni (by omega)]; exact h5, by rw [hI_eq, el, if_pos (by omega)]; push_cast; rfl, fun i hi => by rw [el, if_pos (by omega)] at hi; rw [hI_ni (by omega), hI_rd]; exact (if e : i = r then by rw [if_pos ⟨rfl, e⟩, e, hLu] else by rw [if_neg (fun z => e z.2)]; exact (hL i (by omega)).1)⟩)
        · omega
  refine Ev.iconst dX0_rollWith_0 (Eq.refl 1) ?_
  refine Ev.is2 dX0_rollWith_1 (Eq.refl 2) (by decide) rfl ?_
  exact LOOP _ 0 rfl (by omega) (fun i hi => by omega)
