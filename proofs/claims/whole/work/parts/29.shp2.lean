/-! Shape.addPullOn, setUpRows -/
theorem eE_cm {v : Nv} {k j o c : Nat} (hv : VOk v) (hj : j < vJ v) (ho : o < vJ v) (fj : vF v j = true) (hc : c < vN v + 3) : eE v k j o (cm (vN v) c) = (if c = rwo v j then vQ v k else 0) - (if vF v o = true ∧ c = rwo v o then vQ v k else 0) + (if vF v o = false ∧ vN v ≤ c then vQ v k * vP v o (c - vN v) else 0) := by
  have h5 := vN5 hv
  have rj := rwo_lt hj fj
  unfold eE cm
  by_cases l : c < vN v
  · rw [if_pos l]; grind
  · rw [if_neg l]
    have e5 : c - vN v + 5 - 5 = c - vN v := by omega
    rw [e5]
    cases fo : vF v o
    · grind
    · have ro := rwo_lt ho fo
      grind
theorem cV_Pi {h : Hp} {n j a : Nat} (k : NOk h n) (hj : j < vJ (cV h n)) (hf : ¬ tb (h.1 n 1) j) (ha : a < 3) : h.1 (n + 1) (j * 3 + a) = vP (cV h n) j a := cV_P k (by have := cV_J k; omega) (by cases q : vF (cV h n) j with | false => rfl | true => exact absurd ((cV_F k).mpr q) hf) ha
theorem c_addPull {h : Hp} {n s k j o : Nat} {T : Nat → Nat → Int} (hR : ROk h.2.2) (hn : isNet n) (hs : isShp s) (ok : NOk h n) (nf : NF h s (cV h n)) (hk : k < vS (cV h n)) (he : vA (cV h n) k = j ∧ vB (cV h n) k = o ∨ vA (cV h n) k = o ∧ vB (cV h n) k = j) (hW : RW h s (vN (cV h n)) T) : Ev mX4_addPullOn 1 0 (entL [.ref s, .ref n, iv (k : Int), iv (j : Int)] 8) [] h (PV (fun h' => Fl s h h' ∧ RW h' s (vN (cV h n)) (fun r c => T r c + if vF (cV h n) j = true ∧ r = rwo (cV h n) j then eE (cV h n) k j o c else 0))) := by
  show Ev mX4_addPullOn 1 0 [some (.ref s), some (.ref n), some (iv (k : Int)), some (iv (j : Int)), none, none, none, none] [] h _
  have hv : VOk (cV h n) := ok.2.2.2.2.2
  have hF1 := ok.2.1.1
  have hF2 := ok.f1
  have hJ := hv.1
  have hS14 := hv.2.1
  have h5 := vN5 hv
  have hfr := fun j => cV_F (j := j) ok
  have b := hv.2.2.2.1 k hk
  have kS : (k : Int) < h.1 n 2 := by have := cV_S ok; omega
  have eA := cV_A ok kS
  have eB := cV_B ok kS
  have eQ := cV_Q kS
  have hP := fun (a : Nat) (ho : o < vJ (cV h n)) (hf : ¬ tb (h.1 n 1) o) (ha : a < 3) => cV_Pi ok ho hf ha
  have hpb := fun a => hv.2.2.2.2.2.1 o a
  have hjo : j < vJ (cV h n) ∧ o < vJ (cV h n) ∧ j ≠ o := by rcases he with ⟨rfl, rfl⟩ | ⟨rfl, rfl⟩ <;> omega
  have eo : (if h.1 (n + 3) k = (j : Int) then h.1 (n + 4) k else h.1 (n + 3) k) = (o : Int) := by
    rw [eA, eB]
    rcases he with ⟨h1, h2⟩ | ⟨h1, h2⟩
    · rw [if_pos (by omega)]; omega
    · rw [if_neg (by omega)]; omega
  have iA : I32 (h.1 (n + 3) k) := ⟨by omega, by omega⟩
  have ij : I32 (j : Int) := ⟨by omega, by omega⟩
  have eEc := fun c (fj : vF (cV h n) j = true) (hc : c < vN (cV h n) + 3) => eE_cm (k := k) (o := o) hv hjo.1 hjo.2.1 fj hc
  generalize hve : cV h n = v at *
  have nf4 := nf.1
  by_cases fj : vF v j = true
  · have tj := (hfr j).mpr fj
    have nj := nf.2 j hjo.1 fj
    have rj := rwo_lt hjo.1 fj
    have LOOP : ¬ tb (h.1 n 1) o → ∀ (m a : Nat) (g : Hp), 3 - a = m → a ≤ 3 → Fl s h g → (∀ r c, r < vN v → c < vN v + 3 → g.2.1 (s + 5 + r) c = T r (cm (vN v) c) + if r = rwo v j then ((if c = rwo v j then vQ v k else 0) + if vN v ≤ c ∧ c < vN v + a then vQ v k * vP v o (c - vN v) else 0) else 0) → Ev mX4_addPullOn 1 82 [some (.ref s), some (.ref n), some (iv (k : Int)), some (iv (j : Int)), some (.ref (s + 5 + rwo v j)), some (iv (o : Int)), some (iv (vQ v k)), some (iv (a : Int))] [] g (PV (fun h' => Fl s h h' ∧ RW h' s (vN v) (fun r c => T r c + if vF v j = true ∧ r = rwo v j then eE v k j o c else 0))) := by
      intro fo m
      have hfo : vF v o = false := by cases q : vF v o with | false => rfl | true => exact absurd ((hfr o).mpr q) fo
      induction m using Nat.strongRecOn with
      | ind m ih =>
        intro a g hm ha hF hg
        have hR : ROk g.2.2 := by rw [hF.2.1]; exact hR
        have g4 : g.1 s 4 = (vN v : Int) := by rw [hF.1]; exact nf4
        have gP := fun (ha : a < 3) => hP a hjo.2.1 fo ha
        have hpa := hpb a
        have pq : 0 ≤ vQ v k * vP v o a ∧ vQ v k * vP v o a ≤ 5 * 60 := ⟨Int.mul_nonneg (by omega) hpa.1, Int.mul_le_mul (by omega) hpa.2 hpa.1 (by omega)⟩
        have q1 : ((vN v : Int) + (a : Int)).toNat = vN v + a := by omega
        have q2 : ((o : Int) * 3 + (a : Int)).toNat = o * 3 + a := by omega
        refine Ev.iload dX4_addPullOn_82 (Eq.refl 84) rfl ?_
        refine Ev.iconst dX4_addPullOn_84 (Eq.refl 85) ?_
        refine Ev.icmp_ge (tgt := 123) dX4_addPullOn_85 (Eq.refl 88) (by decide) ⟨by omega, by omega⟩ ⟨by omega, by omega⟩ (fun c85 => ?_) (fun c85 => ?_)
        · exact Ev.vret dX4_addPullOn_123 rfl (⟨rfl, hF, fun r c hr hc => by have z1 := hg r c hr hc; have z2 := eEc c fj hc; rw [z1]; grind⟩)
        · refine Ev.aload dX4_addPullOn_88 (Eq.refl 90) rfl ?_
          refine Ev.aload_n dX4_addPullOn_90 (Eq.refl 91) rfl ?_
          refine Ev.getI dX4_addPullOn_91 (Eq.refl 94) fg_X4_52 (lyS0 (by assumption)) rfl ?_
          rw [g4]
          refine Ev.iload dX4_addPullOn_94 (Eq.refl 96) rfl ?_
          refine Ev.iadd dX4_addPullOn_96 (Eq.refl 97) ?_
          refine Ev.dup2 dX4_addPullOn_97 (Eq.refl 98) rfl rfl ?_
          refine Ev.laload dX4_addPullOn_98 (Eq.refl 99) (lyRow hs (by omega)) rfl (by omega) (by decide) q1 ?_
          refine Ev.iload dX4_addPullOn_99 (Eq.refl 101) rfl ?_
          refine Ev.aload_n dX4_addPullOn_101 (Eq.refl 102) rfl ?_
          refine Ev.getR dX4_addPullOn_102 (Eq.refl 105) fg_X4_89 (lyN0 (by assumption)) rfl (rN6 hR (by assumption)) ?_
          refine Ev.iload dX4_addPullOn_105 (Eq.refl 107) rfl ?_
          refine Ev.iconst dX4_addPullOn_107 (Eq.refl 108) ?_
          refine Ev.imul dX4_addPullOn_108 (Eq.refl 109) ?_
          refine Ev.iload dX4_addPullOn_109 (Eq.refl 111) rfl ?_
          refine Ev.iadd dX4_addPullOn_111 (Eq.refl 112) ?_
          refine Ev.iaload dX4_addPullOn_112 (Eq.refl 113) (lyN1 (by assumption)) rfl (by omega) (by decide) q2 ?_
          rw [hF.1, gP (by omega)]
          refine Ev.imul dX4_addPullOn_113 (Eq.refl 114) ?_
          refine Ev.i2l dX4_addPullOn_114 (Eq.refl 115) ⟨by omega, by omega⟩ ?_
          refine Ev.ladd dX4_addPullOn_115 (Eq.refl 116) ?_
          refine Ev.lastore dX4_addPullOn_116 (Eq.refl 117) (lyRow hs (by omega)) rfl (by omega) (by decide) q1 ?_
          refine Ev.ii7 dX4_addPullOn_117 (Eq.refl 120) (by decide) rfl ?_
          refine Ev.goto' (pc' := 82) dX4_addPullOn_120 (by decide) ?_
          exact ih _ (by omega) (a + 1) _ rfl (by omega) (hF.w ⟨by omega, by omega⟩) (fun r c hr hc => by have z1 := hg r c hr hc; have z2 := hg (rwo v j) (vN v + a) rj (by omega); rw [hL_rd]; have z3 : vN v + a - vN v = a := (by omega); grind)
    refine Ev.aload_n dX4_addPullOn_0 (Eq.refl 1) rfl ?_
    refine Ev.iload_n dX4_addPullOn_1 (Eq.refl 2) rfl ?_
    refine Ev.cv1E dX4_addPullOn_2 (Eq.refl 5) cw_X4_59 (Nat.le_of_ble_eq_true rfl) (by decide) (lyN0 (by assumption)) rfl rfl (Nat.le_of_ble_eq_true rfl) (c_isFree (by assumption) (by omega) (by omega)) ?_
    rw [Int.toNat_natCast]
    refine Ev.if_neB (tgt := 9) dX4_addPullOn_5 (Eq.refl 8) (by decide) (fun c5 => ?_) (fun c5 => ?_)
    · refine Ev.aload_n dX4_addPullOn_9 (Eq.refl 10) rfl ?_
      refine Ev.getR dX4_addPullOn_10 (Eq.refl 13) fg_X4_17 (lyS0 (by assumption)) rfl (rS1 hR (by assumption)) ?_
      refine Ev.aload_n dX4_addPullOn_13 (Eq.refl 14) rfl ?_
      refine Ev.getR dX4_addPullOn_14 (Eq.refl 17) fg_X4_9 (lyS0 (by assumption)) rfl (rS0 hR (by assumption)) ?_
      refine Ev.iload_n dX4_addPullOn_17 (Eq.refl 18) rfl ?_
      refine Ev.iaload dX4_addPullOn_18 (Eq.refl 19) (lyS1 (by assumption)) rfl (by omega) (by decide) (by first | with_reducible exact Int.toNat_natCast _ | exact Eq.refl _) ?_
      rw [nj]
      refine Ev.aaload dX4_addPullOn_19 (Eq.refl 20) (lyS2 (by assumption)) rfl (Or.inr ⟨_, rfl⟩) (by omega) (by decide) (by first | with_reducible exact Int.toNat_natCast _ | exact Eq.refl _) (rSr hR hs (i := rwo v j) (by omega)) ?_
      refine Ev.as4 dX4_addPullOn_20 (Eq.refl 22) (by decide) rfl ?_
      refine Ev.aload_n dX4_addPullOn_22 (Eq.refl 23) rfl ?_
      refine Ev.iload_n dX4_addPullOn_23 (Eq.refl 24) rfl ?_
      refine Ev.iload_n dX4_addPullOn_24 (Eq.refl 25) rfl ?_
      refine Ev.cv2E dX4_addPullOn_25 (Eq.refl 28) cw_X4_82 (Nat.le_of_ble_eq_true rfl) (by decide) (lyN0 (by assumption)) rfl rfl (Nat.le_of_ble_eq_true rfl) (c_otherEnd hR (by assumption) (by omega) (by assumption) (by assumption)) ?_
      rw [Int.toNat_natCast, eo]
      refine Ev.is5 dX4_addPullOn_28 (Eq.refl 30) (by decide) rfl ?_
      refine Ev.aload_n dX4_addPullOn_30 (Eq.refl 31) rfl ?_
      refine Ev.getR dX4_addPullOn_31 (Eq.refl 34) fg_X4_86 (lyN0 (by assumption)) rfl (rN10 hR (by assumption)) ?_
      refine Ev.iload_n dX4_addPullOn_34 (Eq.refl 35) rfl ?_
      refine Ev.iaload dX4_addPullOn_35 (Eq.refl 36) (lyN5 (by assumption)) rfl (by omega) (by decide) (by first | with_reducible exact Int.toNat_natCast _ | exact Eq.refl _) ?_
      rw [eQ]
      refine Ev.is6 dX4_addPullOn_36 (Eq.refl 38) (by decide) rfl ?_
      refine Ev.aload dX4_addPullOn_38 (Eq.refl 40) rfl ?_
      refine Ev.aload_n dX4_addPullOn_40 (Eq.refl 41) rfl ?_
      refine Ev.getR dX4_addPullOn_41 (Eq.refl 44) fg_X4_9 (lyS0 (by assumption)) rfl (rS0 hR (by assumption)) ?_
      refine Ev.iload_n dX4_addPullOn_44 (Eq.refl 45) rfl ?_
      refine Ev.iaload dX4_addPullOn_45 (Eq.refl 46) (lyS1 (by assumption)) rfl (by omega) (by decide) (by first | with_reducible exact Int.toNat_natCast _ | exact Eq.refl _) ?_
      rw [nj]
      refine Ev.dup2 dX4_addPullOn_46 (Eq.refl 47) rfl rfl ?_
      refine Ev.laload dX4_addPullOn_47 (Eq.refl 48) (lyRow hs (by omega)) rfl (by omega) (by decide) (by first | with_reducible exact Int.toNat_natCast _ | exact Eq.refl _) ?_
      refine Ev.iload dX4_addPullOn_48 (Eq.refl 50) rfl ?_
      refine Ev.i2l dX4_addPullOn_50 (Eq.refl 51) ⟨by omega, by omega⟩ ?_
      refine Ev.ladd dX4_addPullOn_51 (Eq.refl 52) ?_
      refine Ev.lastore dX4_addPullOn_52 (Eq.refl 53) (lyRow hs (by omega)) rfl (by omega) (by decide) (by first | with_reducible exact Int.toNat_natCast _ | exact Eq.refl _) ?_
      refine Ev.aload_n dX4_addPullOn_53 (Eq.refl 54) rfl ?_
      refine Ev.iload dX4_addPullOn_54 (Eq.refl 56) rfl ?_
      refine Ev.cv1E dX4_addPullOn_56 (Eq.refl 59) cw_X4_59 (Nat.le_of_ble_eq_true rfl) (by decide) (lyN0 (by assumption)) rfl rfl (Nat.le_of_ble_eq_true rfl) (c_isFree (by assumption) (by omega) (show 0 ≤ h.1 n 1 ∧ h.1 n 1 ≤ 2147483647 by omega)) ?_
      rw [hL_I, Int.toNat_natCast]
      refine Ev.if_eqB (tgt := 79) dX4_addPullOn_59 (Eq.refl 62) (by decide) (fun c59 => ?_) (fun c59 => ?_)
      · refine Ev.iconst dX4_addPullOn_79 (Eq.refl 80) ?_
        refine Ev.is7 dX4_addPullOn_80 (Eq.refl 82) (by decide) rfl ?_
        exact LOOP c59 _ 0 _ rfl (by omega) (Fl.rf.w ⟨by omega, by omega⟩) (fun r c hr hc => by have z1 := hW r c hr hc; have z3 := hW (rwo v j) (rwo v j) rj (by omega); rw [hL_rd]; grind)
      · have fo := (hfr o).mp c59
        have no := nf.2 o hjo.2.1 fo
        have ro := rwo_lt hjo.2.1 fo
        have hne : rwo v j ≠ rwo v o := fun e => hjo.2.2 (cnt_inj fj fo e)
        refine Ev.aload dX4_addPullOn_62 (Eq.refl 64) rfl ?_
        refine Ev.aload_n dX4_addPullOn_64 (Eq.refl 65) rfl ?_
        refine Ev.getR dX4_addPullOn_65 (Eq.refl 68) fg_X4_9 (lyS0 (by assumption)) rfl (rS0 hR (by assumption)) ?_
        refine Ev.iload dX4_addPullOn_68 (Eq.refl 70) rfl ?_
        refine Ev.iaload dX4_addPullOn_70 (Eq.refl 71) (lyS1 (by assumption)) rfl (by omega) (by decide) (by first | with_reducible exact Int.toNat_natCast _ | exact Eq.refl _) ?_
        rw [hL_I, no]
        refine Ev.dup2 dX4_addPullOn_71 (Eq.refl 72) rfl rfl ?_
        refine Ev.laload dX4_addPullOn_72 (Eq.refl 73) (lyRow hs (by omega)) rfl (by omega) (by decide) (by first | with_reducible exact Int.toNat_natCast _ | exact Eq.refl _) ?_
        rw [hL_nk hne.symm]
        refine Ev.iload dX4_addPullOn_73 (Eq.refl 75) rfl ?_
        refine Ev.i2l dX4_addPullOn_75 (Eq.refl 76) ⟨by omega, by omega⟩ ?_
        refine Ev.lsub dX4_addPullOn_76 (Eq.refl 77) ?_
        refine Ev.lastore dX4_addPullOn_77 (Eq.refl 78) (lyRow hs (by omega)) rfl (by omega) (by decide) (by first | with_reducible exact Int.toNat_natCast _ | exact Eq.refl _) ?_
        exact Ev.vret dX4_addPullOn_78 rfl (⟨rfl, (Fl.rf.w ⟨by omega, by omega⟩).w ⟨by omega, by omega⟩, fun r c hr hc => by have z1 := hW r c hr hc; have z2 := eEc c fj hc; have z3 := hW (rwo v j) (rwo v j) rj (by omega); have z4 := hW (rwo v j) (rwo v o) rj (by omega); rw [hL_rd, hL_rd]; grind⟩)
    · exact absurd tj c5
  · have tj : ¬ tb (h.1 n 1) j := fun q => fj ((hfr j).mp q)
    refine Ev.aload_n dX4_addPullOn_0 (Eq.refl 1) rfl ?_
    refine Ev.iload_n dX4_addPullOn_1 (Eq.refl 2) rfl ?_
    refine Ev.cv1E dX4_addPullOn_2 (Eq.refl 5) cw_X4_59 (Nat.le_of_ble_eq_true rfl) (by decide) (lyN0 (by assumption)) rfl rfl (Nat.le_of_ble_eq_true rfl) (c_isFree (by assumption) (by omega) (by omega)) ?_
    rw [Int.toNat_natCast]
    refine Ev.if_neB (tgt := 9) dX4_addPullOn_5 (Eq.refl 8) (by decide) (fun c5 => ?_) (fun c5 => ?_)
    · exact absurd c5 tj
    · exact Ev.vret dX4_addPullOn_8 rfl (⟨rfl, Fl.rf, fun r c hr hc => by have z1 := hW r c hr hc; rw [z1]; grind⟩)
theorem RW_1 {h g : Hp} {s N : Nat} {T T' : Nat → Nat → Int} (hW : RW h s N T) (e : ∀ r c, r < N → c < N + 3 → T r (cm N c) = T' r (cm N c)) : RW h s N T' := fun r c hr hc => (hW r c hr hc).trans (e r c hr hc)
theorem cm7 {N c : Nat} (h5 : N ≤ 5) (hc : c < N + 3) : cm N c = 7 ↔ c = N + 2 := by unfold cm; split <;> omega
theorem c_setUp {h : Hp} {n s : Nat} (hR : ROk h.2.2) (hn : isNet n) (hs : isShp s) (ok : NOk h n) (nf : NF h s (cV h n)) : Ev mX4_setUpRows 2 0 (entL [.ref s, .ref n] 4) [] h (PV (fun h' => Fl s h h' ∧ RW h' s (vN (cV h n)) (T0 (cV h n)))) := by
  show Ev mX4_setUpRows 2 0 [some (.ref s), some (.ref n), none, none] [] h _
  have hv : VOk (cV h n) := ok.2.2.2.2.2
  have hF1 := ok.2.1.1
  have hF2 := ok.f1
  have hH1 := ok.2.2.2.1.1
  have hH2 := ok.f3
  have hJ := hv.1
  have hS14 := hv.2.1
  have h5 := vN5 hv
  have eJ := cV_J ok
  have eSt := cV_S ok
  have hfr := fun j => cV_F (j := j) ok
  have hhg := fun j => cV_H (s := j) ok
  have hLd := fun (j : Nat) (hj : j < vJ (cV h n)) => cV_L (h := h) (n := n) (j := j) (by omega)
  have hLb := hv.2.2.2.2.1
  have hE := hv.2.2.2.1
  have eA := fun (k : Nat) (hk : k < vS (cV h n)) => cV_A (s := k) ok (by omega)
  have eB := fun (k : Nat) (hk : k < vS (cV h n)) => cV_B (s := k) ok (by omega)
  generalize hve : cV h n = v at *
  have nf4 := nf.1
  -- strands
  have L3 : ∀ (m k : Nat) (g : Hp) (x : Option Value), vS v - k = m → k ≤ vS v → Fl s h g → RW g s (vN v) (fun r c => (if c = 7 then lD v (vJ v) r else 0) + sm (fun i => eS v i r c) k) → Ev mX4_setUpRows 2 94 [some (.ref s), some (.ref n), some (iv (k : Int)), x] [] g (PV (fun h' => Fl s h h' ∧ RW h' s (vN v) (T0 v))) := by
    intro m
    induction m using Nat.strongRecOn with
    | ind m ih =>
      intro k g x hm hk hF hW
      have hR : ROk g.2.2 := by rw [hF.2.1]; exact hR
      have okg : NOk g n := NOk_1 hF.1 ok
      have nfg : NF g s (cV g n) := by rw [cV_1 (n := n) hF.1, hve]; exact NF_1 hF.1 nf
      have evg : cV g n = v := (cV_1 hF.1).trans hve
      have g2 : g.1 n 2 = (vS v : Int) := by rw [hF.1]; exact eSt
      refine Ev.iload_n dX4_setUpRows_94 (Eq.refl 95) rfl ?_
      refine Ev.aload_n dX4_setUpRows_95 (Eq.refl 96) rfl ?_
      refine Ev.getI dX4_setUpRows_96 (Eq.refl 99) fg_X4_66 (lyN0 (by assumption)) rfl ?_
      rw [g2]
      refine Ev.icmp_ge (tgt := 140) dX4_setUpRows_99 (Eq.refl 102) (by decide) ⟨by omega, by omega⟩ ⟨by omega, by omega⟩ (fun c99 => ?_) (fun c99 => ?_)
      · have e : k = vS v := by omega
        subst e
        exact Ev.vret dX4_setUpRows_140 rfl (⟨rfl, hF, hW⟩)
      · have hk2 : k < vS v := by omega
        refine Ev.aload_n dX4_setUpRows_102 (Eq.refl 103) rfl ?_
        refine Ev.iload_n dX4_setUpRows_103 (Eq.refl 104) rfl ?_
        refine Ev.cv1E dX4_setUpRows_104 (Eq.refl 107) cw_X4_69 (Nat.le_of_ble_eq_true rfl) (by decide) (lyN0 (by assumption)) rfl rfl (Nat.le_of_ble_eq_true rfl) (c_hangs (by assumption) (by omega) (by rw [hF.1]; omega)) ?_
        rw [hF.1, Int.toNat_natCast]
        refine Ev.if_eqB (tgt := 134) dX4_setUpRows_107 (Eq.refl 110) (by decide) (fun c107 => ?_) (fun c107 => ?_)
        · have hnh : vH v k = false := by cases q : vH v k with | false => rfl | true => exact absurd ((hhg k).mpr q) c107
          refine Ev.ii2 dX4_setUpRows_134 (Eq.refl 137) (by decide) rfl ?_
          refine Ev.goto' (pc' := 94) dX4_setUpRows_137 (by decide) ?_
          first | exact ih _ (by omega) (k + 1) _ _ rfl (by omega) hF (RW_1 (h := g) (g := g) hW (fun r c hr hc => by simp only [sm]; rw [show eS v k r (cm (vN v) c) = 0 from eS_0 (fun z => by rw [hnh] at z; cases z.1)]; omega)) | exact ih _ (by omega) (k + 1) _ _ rfl (by omega) (hF'.tr hF2') (RW_1 (h := g131) (g := g131) hW2 (fun r c hr hc => by simp only [sm]; rw [show eS v k r (cm (vN v) c) = (if vF v (vA v k) = true ∧ r = rwo v (vA v k) then eE v k (vA v k) (vB v k) (cm (vN v) c) else 0) + (if vF v (vB v k) = true ∧ r = rwo v (vB v k) then eE v k (vB v k) (vA v k) (cm (vN v) c) else 0) from if_pos hh]; omega))
        · have hh := (hhg k).mp c107
          refine Ev.aload_n dX4_setUpRows_110 (Eq.refl 111) rfl ?_
          refine Ev.aload_n dX4_setUpRows_111 (Eq.refl 112) rfl ?_
          refine Ev.iload_n dX4_setUpRows_112 (Eq.refl 113) rfl ?_
          refine Ev.aload_n dX4_setUpRows_113 (Eq.refl 114) rfl ?_
          refine Ev.getR dX4_setUpRows_114 (Eq.refl 117) fg_X4_72 (lyN0 (by assumption)) rfl (rN8 hR (by assumption)) ?_
          refine Ev.iload_n dX4_setUpRows_117 (Eq.refl 118) rfl ?_
          refine Ev.iaload dX4_setUpRows_118 (Eq.refl 119) (lyN3 (by assumption)) rfl (by omega) (by decide) (by first | with_reducible exact Int.toNat_natCast _ | exact Eq.refl _) ?_
          rw [hF.1, eA k hk2]
          refine Ev.cv3V dX4_setUpRows_119 (Eq.refl 122) cw_X4_75 (Nat.le_of_ble_eq_true rfl) (by decide) (lyS0 (by assumption)) rfl rfl (Nat.le_of_ble_eq_true rfl) (c_addPull (o := vB v k) hR hn hs okg nfg (by rw [evg]; exact hk2) (by rw [evg]; exact Or.inl ⟨rfl, rfl⟩) (by rw [evg]; exact hW)) (fun g119 hp119 => ?_)
          obtain ⟨hF1', hW1⟩ := hp119
          rw [evg] at hW1
          have hF' := hF.tr hF1'
          have hR : ROk g119.2.2 := by rw [hF1'.2.1]; exact hR
          have okg' : NOk g119 n := NOk_1 hF'.1 ok
          have evg' : cV g119 n = v := (cV_1 hF'.1).trans hve
          have nfg' : NF g119 s (cV g119 n) := by rw [evg']; exact NF_1 hF'.1 nf
          refine Ev.aload_n dX4_setUpRows_122 (Eq.refl 123) rfl ?_
          refine Ev.aload_n dX4_setUpRows_123 (Eq.refl 124) rfl ?_
          refine Ev.iload_n dX4_setUpRows_124 (Eq.refl 125) rfl ?_
          refine Ev.aload_n dX4_setUpRows_125 (Eq.refl 126) rfl ?_
          refine Ev.getR dX4_setUpRows_126 (Eq.refl 129) fg_X4_79 (lyN0 (by assumption)) rfl (rN9 hR (by assumption)) ?_
          refine Ev.iload_n dX4_setUpRows_129 (Eq.refl 130) rfl ?_
          refine Ev.iaload dX4_setUpRows_130 (Eq.refl 131) (lyN4 (by assumption)) rfl (by omega) (by decide) (by first | with_reducible exact Int.toNat_natCast _ | exact Eq.refl _) ?_
          rw [hF'.1, eB k hk2]
          refine Ev.cv3V dX4_setUpRows_131 (Eq.refl 134) cw_X4_75 (Nat.le_of_ble_eq_true rfl) (by decide) (lyS0 (by assumption)) rfl rfl (Nat.le_of_ble_eq_true rfl) (c_addPull (o := vA v k) hR hn hs okg' nfg' (by rw [evg']; exact hk2) (by rw [evg']; exact Or.inr ⟨rfl, rfl⟩) (by rw [evg']; exact hW1)) (fun g131 hp131 => ?_)
          obtain ⟨hF2', hW2⟩ := hp131
          rw [evg'] at hW2
          refine Ev.ii2 dX4_setUpRows_134 (Eq.refl 137) (by decide) rfl ?_
          refine Ev.goto' (pc' := 94) dX4_setUpRows_137 (by decide) ?_
          first | exact ih _ (by omega) (k + 1) _ _ rfl (by omega) hF (RW_1 (h := g) (g := g) hW (fun r c hr hc => by simp only [sm]; rw [show eS v k r (cm (vN v) c) = 0 from eS_0 (fun z => by rw [hnh] at z; cases z.1)]; omega)) | exact ih _ (by omega) (k + 1) _ _ rfl (by omega) (hF'.tr hF2') (RW_1 (h := g131) (g := g131) hW2 (fun r c hr hc => by simp only [sm]; rw [show eS v k r (cm (vN v) c) = (if vF v (vA v k) = true ∧ r = rwo v (vA v k) then eE v k (vA v k) (vB v k) (cm (vN v) c) else 0) + (if vF v (vB v k) = true ∧ r = rwo v (vB v k) then eE v k (vB v k) (vA v k) (cm (vN v) c) else 0) from if_pos hh]; omega))
  -- loads
  have L2 : ∀ (m k : Nat) (g : Hp) (x : Option Value), vJ v - k = m → k ≤ vJ v → Fl s h g → RW g s (vN v) (fun r c => if c = 7 then lD v k r else 0) → Ev mX4_setUpRows 2 45 [some (.ref s), some (.ref n), some (iv (k : Int)), x] [] g (PV (fun h' => Fl s h h' ∧ RW h' s (vN v) (T0 v))) := by
    intro m
    induction m using Nat.strongRecOn with
    | ind m ih =>
      intro k g x hm hk hF hW
      have hR : ROk g.2.2 := by rw [hF.2.1]; exact hR
      have g0 : g.1 n 0 = (vJ v : Int) := by rw [hF.1]; exact eJ
      have g4 : g.1 s 4 = (vN v : Int) := by rw [hF.1]; exact nf4
      have q1 : ((vN v : Int) + 2).toNat = vN v + 2 := by omega
      refine Ev.iload_n dX4_setUpRows_45 (Eq.refl 46) rfl ?_
      refine Ev.aload_n dX4_setUpRows_46 (Eq.refl 47) rfl ?_
      refine Ev.getI dX4_setUpRows_47 (Eq.refl 50) fg_X4_56 (lyN0 (by assumption)) rfl ?_
      rw [g0]
      refine Ev.icmp_ge (tgt := 92) dX4_setUpRows_50 (Eq.refl 53) (by decide) ⟨by omega, by omega⟩ ⟨by omega, by omega⟩ (fun c50 => ?_) (fun c50 => ?_)
      · have e : k = vJ v := by omega
        subst e
        refine Ev.iconst dX4_setUpRows_92 (Eq.refl 93) ?_
        refine Ev.is2 dX4_setUpRows_93 (Eq.refl 94) (by decide) rfl ?_
        exact L3 _ 0 _ _ rfl (by omega) hF (RW_1 (h := g) (g := g) hW (fun r c hr hc => by simp only [sm]; omega))
      · have hk2 : k < vJ v := by omega
        have hlb := hLb k hk2
        refine Ev.aload_n dX4_setUpRows_53 (Eq.refl 54) rfl ?_
        refine Ev.iload_n dX4_setUpRows_54 (Eq.refl 55) rfl ?_
        refine Ev.cv1E dX4_setUpRows_55 (Eq.refl 58) cw_X4_59 (Nat.le_of_ble_eq_true rfl) (by decide) (lyN0 (by assumption)) rfl rfl (Nat.le_of_ble_eq_true rfl) (c_isFree (by assumption) (by omega) (by rw [hF.1]; omega)) ?_
        rw [hF.1, Int.toNat_natCast]
        refine Ev.if_eqB (tgt := 86) dX4_setUpRows_58 (Eq.refl 61) (by decide) (fun c58 => ?_) (fun c58 => ?_)
        · have hnf : vF v k = false := by cases q : vF v k with | false => rfl | true => exact absurd ((hfr k).mpr q) c58
          refine Ev.ii2 dX4_setUpRows_86 (Eq.refl 89) (by decide) rfl ?_
          refine Ev.goto' (pc' := 45) dX4_setUpRows_89 (by decide) ?_
          first | exact ih _ (by omega) (k + 1) _ _ rfl (by omega) hF (RW_1 (h := g) (g := g) hW (fun r c hr hc => by simp only [lD]; rw [if_neg (c := vF v k = true ∧ r = rwo v k) (fun z => by rw [hnf] at z; cases z.1)])) | exact ih _ (by omega) (k + 1) _ _ rfl (by omega) (hF.w ⟨by omega, by omega⟩) (fun r c hr hc => by have z1 := hW r c hr hc; have z2 := cm7 h5 hc; simp only [lD]; rw [hL_rd]; grind)
        · have hf := (hfr k).mp c58
          have rk := rwo_lt hk2 hf
          refine Ev.aload_n dX4_setUpRows_61 (Eq.refl 62) rfl ?_
          refine Ev.getR dX4_setUpRows_62 (Eq.refl 65) fg_X4_17 (lyS0 (by assumption)) rfl (rS1 hR (by assumption)) ?_
          refine Ev.aload_n dX4_setUpRows_65 (Eq.refl 66) rfl ?_
          refine Ev.getR dX4_setUpRows_66 (Eq.refl 69) fg_X4_9 (lyS0 (by assumption)) rfl (rS0 hR (by assumption)) ?_
          refine Ev.iload_n dX4_setUpRows_69 (Eq.refl 70) rfl ?_
          refine Ev.iaload dX4_setUpRows_70 (Eq.refl 71) (lyS1 (by assumption)) rfl (by omega) (by decide) (by first | with_reducible exact Int.toNat_natCast _ | exact Eq.refl _) ?_
          rw [hF.1, nf.2 k hk2 hf]
          refine Ev.aaload dX4_setUpRows_71 (Eq.refl 72) (lyS2 (by assumption)) rfl (Or.inr ⟨_, rfl⟩) (by omega) (by decide) (by first | with_reducible exact Int.toNat_natCast _ | exact Eq.refl _) (rSr hR hs (i := rwo v k) (by omega)) ?_
          refine Ev.aload_n dX4_setUpRows_72 (Eq.refl 73) rfl ?_
          refine Ev.getI dX4_setUpRows_73 (Eq.refl 76) fg_X4_52 (lyS0 (by assumption)) rfl ?_
          rw [g4]
          refine Ev.iconst dX4_setUpRows_76 (Eq.refl 77) ?_
          refine Ev.iadd dX4_setUpRows_77 (Eq.refl 78) ?_
          refine Ev.aload_n dX4_setUpRows_78 (Eq.refl 79) rfl ?_
          refine Ev.getR dX4_setUpRows_79 (Eq.refl 82) fg_X4_63 (lyN0 (by assumption)) rfl (rN7 hR (by assumption)) ?_
          refine Ev.iload_n dX4_setUpRows_82 (Eq.refl 83) rfl ?_
          refine Ev.iaload dX4_setUpRows_83 (Eq.refl 84) (lyN2 (by assumption)) rfl (by omega) (by decide) (by first | with_reducible exact Int.toNat_natCast _ | exact Eq.refl _) ?_
          rw [hF.1, hLd k hk2]
          refine Ev.i2l dX4_setUpRows_84 (Eq.refl 85) ⟨by omega, by omega⟩ ?_
          refine Ev.lastore dX4_setUpRows_85 (Eq.refl 86) (lyRow hs (by omega)) rfl (by omega) (by decide) q1 ?_
          refine Ev.ii2 dX4_setUpRows_86 (Eq.refl 89) (by decide) rfl ?_
          refine Ev.goto' (pc' := 45) dX4_setUpRows_89 (by decide) ?_
          first | exact ih _ (by omega) (k + 1) _ _ rfl (by omega) hF (RW_1 (h := g) (g := g) hW (fun r c hr hc => by simp only [lD]; rw [if_neg (c := vF v k = true ∧ r = rwo v k) (fun z => by rw [hnf] at z; cases z.1)])) | exact ih _ (by omega) (k + 1) _ _ rfl (by omega) (hF.w ⟨by omega, by omega⟩) (fun r c hr hc => by have z1 := hW r c hr hc; have z2 := cm7 h5 hc; simp only [lD]; rw [hL_rd]; grind)
  -- zeros
  have L1 : ∀ (m i : Nat) (g : Hp) (x : Option Value), vN v - i = m → i ≤ vN v → Fl s h g → (∀ r c, r < i → c < vN v + 3 → g.2.1 (s + 5 + r) c = 0) → Ev mX4_setUpRows 2 2 [some (.ref s), some (.ref n), some (iv (i : Int)), x] [] g (PV (fun h' => Fl s h h' ∧ RW h' s (vN v) (T0 v))) := by
    intro m
    induction m using Nat.strongRecOn with
    | ind m ih =>
      intro i g x hm hi hF hz
      have IN : ∀ (m2 k : Nat) (g : Hp), vN v + 3 - k = m2 → k ≤ vN v + 3 → i < vN v → Fl s h g → (∀ r c, r < i → c < vN v + 3 → g.2.1 (s + 5 + r) c = 0) → (∀ c, c < k → g.2.1 (s + 5 + i) c = 0) → Ev mX4_setUpRows 2 12 [some (.ref s), some (.ref n), some (iv (i : Int)), some (iv (k : Int))] [] g (PV (fun h' => Fl s h h' ∧ RW h' s (vN v) (T0 v))) := by
        intro m2
        induction m2 using Nat.strongRecOn with
        | ind m2 ih2 =>
          intro k g hm2 hk hi2 hF hz hz2
          have hR : ROk g.2.2 := by rw [hF.2.1]; exact hR
          have g4 : g.1 s 4 = (vN v : Int) := by rw [hF.1]; exact nf4
          refine Ev.iload_n dX4_setUpRows_12 (Eq.refl 13) rfl ?_
          refine Ev.aload_n dX4_setUpRows_13 (Eq.refl 14) rfl ?_
          refine Ev.getI dX4_setUpRows_14 (Eq.refl 17) fg_X4_52 (lyS0 (by assumption)) rfl ?_
          rw [g4]
          refine Ev.iconst dX4_setUpRows_17 (Eq.refl 18) ?_
          refine Ev.iadd dX4_setUpRows_18 (Eq.refl 19) ?_
          refine Ev.icmp_ge (tgt := 37) dX4_setUpRows_19 (Eq.refl 22) (by decide) ⟨by omega, by omega⟩ ⟨by omega, by omega⟩ (fun c19 => ?_) (fun c19 => ?_)
          · have e : k = vN v + 3 := by omega
            subst e
            refine Ev.ii2 dX4_setUpRows_37 (Eq.refl 40) (by decide) rfl ?_
            refine Ev.goto' (pc' := 2) dX4_setUpRows_40 (by decide) ?_
            exact ih _ (by omega) (i + 1) _ _ rfl (by omega) hF (fun r c hr hc => if e : r = i then by rw [e]; exact hz2 c hc else hz r c (by omega) hc)
          · refine Ev.aload_n dX4_setUpRows_22 (Eq.refl 23) rfl ?_
            refine Ev.getR dX4_setUpRows_23 (Eq.refl 26) fg_X4_17 (lyS0 (by assumption)) rfl (rS1 hR (by assumption)) ?_
            refine Ev.iload_n dX4_setUpRows_26 (Eq.refl 27) rfl ?_
            refine Ev.aaload dX4_setUpRows_27 (Eq.refl 28) (lyS2 (by assumption)) rfl (Or.inr ⟨_, rfl⟩) (by omega) (by decide) (by first | with_reducible exact Int.toNat_natCast _ | exact Eq.refl _) (rSr hR hs (i := i) (by omega)) ?_
            refine Ev.iload_n dX4_setUpRows_28 (Eq.refl 29) rfl ?_
            refine Ev.lconst0 dX4_setUpRows_29 (Eq.refl 30) ?_
            refine Ev.lastore dX4_setUpRows_30 (Eq.refl 31) (lyRow hs (by omega)) rfl (by omega) (by decide) (by first | with_reducible exact Int.toNat_natCast _ | exact Eq.refl _) ?_
            refine Ev.ii3 dX4_setUpRows_31 (Eq.refl 34) (by decide) rfl ?_
            refine Ev.goto' (pc' := 12) dX4_setUpRows_34 (by decide) ?_
            exact ih2 _ (by omega) (k + 1) _ rfl (by omega) hi2 (hF.w ⟨by omega, by omega⟩) (fun r c hr hc => by rw [hL_ni (by omega)]; exact hz r c hr hc) (fun c hc => by rw [hL_rd]; have := hz2 c; grind)
      have hR : ROk g.2.2 := by rw [hF.2.1]; exact hR
      have g4 : g.1 s 4 = (vN v : Int) := by rw [hF.1]; exact nf4
      refine Ev.iload_n dX4_setUpRows_2 (Eq.refl 3) rfl ?_
      refine Ev.aload_n dX4_setUpRows_3 (Eq.refl 4) rfl ?_
      refine Ev.getI dX4_setUpRows_4 (Eq.refl 7) fg_X4_52 (lyS0 (by assumption)) rfl ?_
      rw [g4]
      refine Ev.icmp_ge (tgt := 43) dX4_setUpRows_7 (Eq.refl 10) (by decide) ⟨by omega, by omega⟩ ⟨by omega, by omega⟩ (fun c7 => ?_) (fun c7 => ?_)
      · have e : i = vN v := by omega
        subst e
        refine Ev.iconst dX4_setUpRows_43 (Eq.refl 44) ?_
        refine Ev.is2 dX4_setUpRows_44 (Eq.refl 45) (by decide) rfl ?_
        exact L2 _ 0 _ _ rfl (by omega) hF (fun r c hr hc => by rw [hz r c hr hc]; simp only [lD]; split <;> rfl)
      · refine Ev.iconst dX4_setUpRows_10 (Eq.refl 11) ?_
        refine Ev.is3 dX4_setUpRows_11 (Eq.refl 12) (by decide) rfl ?_
        exact IN _ 0 _ rfl (by omega) (by omega) hF hz (fun c hc => by omega)
  refine Ev.iconst dX4_setUpRows_0 (Eq.refl 1) ?_
  refine Ev.is2 dX4_setUpRows_1 (Eq.refl 2) (by decide) rfl ?_
  exact L1 _ 0 _ _ rfl (by omega) Fl.rf (fun r c hr => by omega)
