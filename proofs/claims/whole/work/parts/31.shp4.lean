/-! Shape.above, tellHundredths, wayFrom, tellLengths, find -/
def ShA (h : Hp) (s : Nat) (v : Nv) : Prop := NF h s v ∧ RW h s (vN v) (tB v (vN v)) ∧ h.2.1 s 5 = dB v (vN v)
theorem ShA.fr {S : Nat → Prop} {h g : Hp} {s : Nat} {v : Nv} (k : ShA h s v) (hv : VOk v) (hF : Fr S h g) (hS : ∀ i, inS s i → S i → i = s + 3 ∨ i = s + 4) : ShA g s v := by
  have h5 := vN5 hv
  have e : ∀ i, i ≤ 9 → i ≠ 3 → i ≠ 4 → ¬ S (s + i) := fun i h1 h2 h3 z => by have := hS (s + i) ⟨by omega, by omega⟩ z; omega
  refine ⟨⟨?_, fun j hj hf => ?_⟩, fun r c hr hc => ?_, ?_⟩
  · rw [hF.1 s (e 0 (by omega) (by omega) (by omega))]; exact k.1.1
  · rw [hF.1 (s + 1) (e 1 (by omega) (by omega) (by omega))]; exact k.1.2 j hj hf
  · rw [hF.2.1 (s + 5 + r) (by rw [Nat.add_assoc]; exact e (5 + r) (by omega) (by omega) (by omega))]; exact k.2.1 r c hr hc
  · rw [hF.2.1 s (e 0 (by omega) (by omega) (by omega))]; exact k.2.2
theorem c_above {h : Hp} {n s j a : Nat} (hR : ROk h.2.2) (hn : isNet n) (hs : isShp s) (ok : NOk h n) (sa : ShA h s (cV h n)) (hj : j < vJ (cV h n)) (h3 : a < 3) : Ev mX4_above 1 0 (entL [.ref s, .ref n, iv (j : Int), iv (a : Int)] 4) [] h (PEJ (zA (cV h n) j a) h) := by
  show Ev mX4_above 1 0 [some (.ref s), some (.ref n), some (iv (j : Int)), some (iv (a : Int))] [] h _
  have hv : VOk (cV h n) := ok.2.2.2.2.2
  have hF1 := ok.2.1.1
  have hF2 := ok.f1
  have hJ := hv.1
  have h5 := vN5 hv
  have hfr := cV_F (j := j) ok
  have eP := fun (hf : ¬ tb (h.1 n 1) j) => cV_Pi (a := a) ok hj hf h3
  have hpb := hv.2.2.2.2.2.1 j a
  generalize hve : cV h n = v at *
  have nf4 := sa.1.1
  have sa5 := sa.2.2
  have q1 : ((vN v : Int) + (a : Int)).toNat = vN v + a := by omega
  have q2 : ((j : Int) * 3 + (a : Int)).toNat = j * 3 + a := by omega
  refine Ev.aload_n dX4_above_0 (Eq.refl 1) rfl ?_
  refine Ev.iload_n dX4_above_1 (Eq.refl 2) rfl ?_
  refine Ev.cv1E dX4_above_2 (Eq.refl 5) cw_X4_59 (Nat.le_of_ble_eq_true rfl) (by decide) (lyN0 (by assumption)) rfl rfl (Nat.le_of_ble_eq_true rfl) (c_isFree (by assumption) (by omega) (by omega)) ?_
  rw [Int.toNat_natCast]
  refine Ev.if_eqB (tgt := 27) dX4_above_5 (Eq.refl 8) (by decide) (fun c5 => ?_) (fun c5 => ?_)
  · refine Ev.aload_n dX4_above_27 (Eq.refl 28) rfl ?_
    refine Ev.getR dX4_above_28 (Eq.refl 31) fg_X4_89 (lyN0 (by assumption)) rfl (rN6 hR (by assumption)) ?_
    refine Ev.iload_n dX4_above_31 (Eq.refl 32) rfl ?_
    refine Ev.iconst dX4_above_32 (Eq.refl 33) ?_
    refine Ev.imul dX4_above_33 (Eq.refl 34) ?_
    refine Ev.iload_n dX4_above_34 (Eq.refl 35) rfl ?_
    refine Ev.iadd dX4_above_35 (Eq.refl 36) ?_
    refine Ev.iaload dX4_above_36 (Eq.refl 37) (lyN1 (by assumption)) rfl (by omega) (by decide) q2 ?_
    rw [eP c5]
    refine Ev.i2l dX4_above_37 (Eq.refl 38) ⟨by omega, by omega⟩ ?_
    refine Ev.aload_n dX4_above_38 (Eq.refl 39) rfl ?_
    refine Ev.getL dX4_above_39 (Eq.refl 42) fg_X4_26 (lyS0 (by assumption)) rfl ?_
    rw [sa5]
    refine Ev.lmul dX4_above_42 (Eq.refl 43) ?_
    exact Ev.lret dX4_above_43 rfl (⟨_, rfl, (if_neg (fun z => c5 (hfr.mpr z))).symm, rfl⟩)
  · have hf := hfr.mp c5
    have rk := rwo_lt hj hf
    refine Ev.aload_n dX4_above_8 (Eq.refl 9) rfl ?_
    refine Ev.getR dX4_above_9 (Eq.refl 12) fg_X4_17 (lyS0 (by assumption)) rfl (rS1 hR (by assumption)) ?_
    refine Ev.aload_n dX4_above_12 (Eq.refl 13) rfl ?_
    refine Ev.getR dX4_above_13 (Eq.refl 16) fg_X4_9 (lyS0 (by assumption)) rfl (rS0 hR (by assumption)) ?_
    refine Ev.iload_n dX4_above_16 (Eq.refl 17) rfl ?_
    refine Ev.iaload dX4_above_17 (Eq.refl 18) (lyS1 (by assumption)) rfl (by omega) (by decide) (by first | with_reducible exact Int.toNat_natCast _ | exact Eq.refl _) ?_
    rw [sa.1.2 j hj hf]
    refine Ev.aaload dX4_above_18 (Eq.refl 19) (lyS2 (by assumption)) rfl (Or.inr ⟨_, rfl⟩) (by omega) (by decide) (by first | with_reducible exact Int.toNat_natCast _ | exact Eq.refl _) (rSr hR hs (i := rwo v j) (by omega)) ?_
    refine Ev.aload_n dX4_above_19 (Eq.refl 20) rfl ?_
    refine Ev.getI dX4_above_20 (Eq.refl 23) fg_X4_52 (lyS0 (by assumption)) rfl ?_
    rw [nf4]
    refine Ev.iload_n dX4_above_23 (Eq.refl 24) rfl ?_
    refine Ev.iadd dX4_above_24 (Eq.refl 25) ?_
    refine Ev.laload dX4_above_25 (Eq.refl 26) (lyRow hs (by omega)) rfl (by omega) (by decide) q1 ?_
    exact Ev.lret dX4_above_26 rfl (⟨_, rfl, by rw [sa.2.1 (rwo v j) (vN v + a) rk (by omega), cm_ge]; exact (if_pos hf).symm, rfl⟩)
theorem c_tellHun {h : Hp} {n s : Nat} (hR : ROk h.2.2) (hn : isNet n) (hs : isShp s) (ok : NOk h n) (ha : aH (cV h n) (hgV (cV h n))) (sa : ShA h s (cV h n)) : Ev mX4_tellHundredths 2 0 (entL [.ref s, .ref n] 4) [] h (PV (fun h' => Fr (fun i => i = s + 3) h h' ∧ ∀ j a, j < vJ (cV h n) → a < 3 → h'.1 (s + 3) (j * 3 + a) = hU (cV h n) j a)) := by
  show Ev mX4_tellHundredths 2 0 [some (.ref s), some (.ref n), none, none] [] h _
  have hv : VOk (cV h n) := ok.2.2.2.2.2
  have hJ := hv.1
  have eJ := cV_J ok
  generalize hve : cV h n = v at *
  have hd := dB_64 hv ha (Nat.le_refl (vN v))
  have hd2 := dB_b hv ha
  have sa5 := sa.2.2
  have OUT : ∀ (m j : Nat) (g : Hp) (x : Option Value), vJ v - j = m → j ≤ vJ v → Fr (fun i => i = s + 3) h g → (∀ i a, i < j → a < 3 → g.1 (s + 3) (i * 3 + a) = hU v i a) → Ev mX4_tellHundredths 2 12 [some (.ref s), some (.ref n), some (iv (j : Int)), x] [] g (PV (fun h' => Fr (fun i => i = s + 3) h h' ∧ ∀ j a, j < vJ v → a < 3 → h'.1 (s + 3) (j * 3 + a) = hU v j a)) := by
    intro m
    induction m using Nat.strongRecOn with
    | ind m ih =>
      intro j g x hm hj hF hx
      have IN : ∀ (m2 a : Nat) (g : Hp), 3 - a = m2 → a ≤ 3 → j < vJ v → Fr (fun i => i = s + 3) h g → (∀ i a, i < j → a < 3 → g.1 (s + 3) (i * 3 + a) = hU v i a) → (∀ i, i < a → g.1 (s + 3) (j * 3 + i) = hU v j i) → Ev mX4_tellHundredths 2 22 [some (.ref s), some (.ref n), some (iv (j : Int)), some (iv (a : Int))] [] g (PV (fun h' => Fr (fun i => i = s + 3) h h' ∧ ∀ j a, j < vJ v → a < 3 → h'.1 (s + 3) (j * 3 + a) = hU v j a)) := by
        intro m2
        induction m2 using Nat.strongRecOn with
        | ind m2 ih2 =>
          intro a g hm2 ha3 hj2 hF hx hy
          have hR := hF.R hR
          have sm := hF.same (n := n) (fun i h1 h2 => by omega)
          have okg := sm.ok ok
          have evg : cV g n = v := sm.V.trans hve
          have sag : ShA g s (cV g n) := by rw [evg]; exact sa.fr hv hF (fun i _ e => Or.inl e)
          have e5 : g.2.1 s 5 = dB v (vN v) := by rw [← evg] at sa5 ⊢; exact sag.2.2
          have q1 : ((j : Int) * 3 + (a : Int)).toNat = j * 3 + a := by omega
          refine Ev.iload_n dX4_tellHundredths_22 (Eq.refl 23) rfl ?_
          refine Ev.iconst dX4_tellHundredths_23 (Eq.refl 24) ?_
          refine Ev.icmp_ge (tgt := 62) dX4_tellHundredths_24 (Eq.refl 27) (by decide) ⟨by omega, by omega⟩ ⟨by omega, by omega⟩ (fun c24 => ?_) (fun c24 => ?_)
          · have e : a = 3 := by omega
            subst e
            refine Ev.ii2 dX4_tellHundredths_62 (Eq.refl 65) (by decide) rfl ?_
            refine Ev.goto' (pc' := 12) dX4_tellHundredths_65 (by decide) ?_
            exact ih _ (by omega) (j + 1) _ _ rfl (by omega) hF (fun i b hi hb => if e : i = j then by rw [e]; exact hy b hb else hx i b (by omega) hb)
          · have h3 : a < 3 := by omega
            have zb := zA_b hv ha hj2 h3
            have i64 : I64 (100 * zA v j a) := ⟨by omega, by omega⟩
            refine Ev.aload_n dX4_tellHundredths_27 (Eq.refl 28) rfl ?_
            refine Ev.getR dX4_tellHundredths_28 (Eq.refl 31) fg_X4_20 (lyS0 (by assumption)) rfl (rS2 hR (by assumption)) ?_
            refine Ev.iload_n dX4_tellHundredths_31 (Eq.refl 32) rfl ?_
            refine Ev.iconst dX4_tellHundredths_32 (Eq.refl 33) ?_
            refine Ev.imul dX4_tellHundredths_33 (Eq.refl 34) ?_
            refine Ev.iload_n dX4_tellHundredths_34 (Eq.refl 35) rfl ?_
            refine Ev.iadd dX4_tellHundredths_35 (Eq.refl 36) ?_
            refine Ev.ldc2 dX4_tellHundredths_36 (Eq.refl 39) kc_X4_96 ?_
            refine Ev.aload_n dX4_tellHundredths_39 (Eq.refl 40) rfl ?_
            refine Ev.aload_n dX4_tellHundredths_40 (Eq.refl 41) rfl ?_
            refine Ev.iload_n dX4_tellHundredths_41 (Eq.refl 42) rfl ?_
            refine Ev.iload_n dX4_tellHundredths_42 (Eq.refl 43) rfl ?_
            refine Ev.cv3F dX4_tellHundredths_43 (Eq.refl 46) cw_X4_98 (Nat.le_of_ble_eq_true rfl) (by decide) (lyS0 (by assumption)) rfl rfl (Nat.le_of_ble_eq_true rfl) (c_above hR hn hs okg sag (by rw [evg]; exact hj2) h3) ?_
            rw [evg]
            refine Ev.lmul dX4_tellHundredths_46 (Eq.refl 47) ?_
            refine Ev.aload_n dX4_tellHundredths_47 (Eq.refl 48) rfl ?_
            refine Ev.getL dX4_tellHundredths_48 (Eq.refl 51) fg_X4_26 (lyS0 (by assumption)) rfl ?_
            rw [e5]
            refine Ev.cs2F dX4_tellHundredths_51 (Eq.refl 54) cw_X4_102 (Nat.le_of_ble_eq_true rfl) (by decide) rfl (Nat.le_of_ble_eq_true rfl) (c_floorDiv (by assumption) (by assumption)) ?_
            refine Ev.l2i dX4_tellHundredths_54 (Eq.refl 55) ?_
            refine Ev.iastore dX4_tellHundredths_55 (Eq.refl 56) (lyS3 (by assumption)) rfl (by omega) (by decide) q1 ?_
            refine Ev.ii3 dX4_tellHundredths_56 (Eq.refl 59) (by decide) rfl ?_
            refine Ev.goto' (pc' := 22) dX4_tellHundredths_59 (by decide) ?_
            exact ih2 _ (by omega) (a + 1) _ rfl (by omega) hj2 (hF.wI rfl) (fun i b hi hb => by rw [hI_nk (by omega)]; exact hx i b hi hb) (fun i hi => if e : i = a then by rw [e, hI_eq]; rfl else by rw [hI_nk (by omega)]; exact hy i (by omega))
      have sm := hF.same (n := n) (fun i h1 h2 => by omega)
      have g0 : g.1 n 0 = (vJ v : Int) := (sm 0 (by omega) 0).trans eJ
      refine Ev.iload_n dX4_tellHundredths_12 (Eq.refl 13) rfl ?_
      refine Ev.aload_n dX4_tellHundredths_13 (Eq.refl 14) rfl ?_
      refine Ev.getI dX4_tellHundredths_14 (Eq.refl 17) fg_X4_56 (lyN0 (by assumption)) rfl ?_
      rw [g0]
      refine Ev.icmp_ge (tgt := 68) dX4_tellHundredths_17 (Eq.refl 20) (by decide) ⟨by omega, by omega⟩ ⟨by omega, by omega⟩ (fun c17 => ?_) (fun c17 => ?_)
      · have e : j = vJ v := by omega
        subst e
        exact Ev.vret dX4_tellHundredths_68 rfl (⟨rfl, hF, hx⟩)
      · refine Ev.iconst dX4_tellHundredths_20 (Eq.refl 21) ?_
        refine Ev.is3 dX4_tellHundredths_21 (Eq.refl 22) (by decide) rfl ?_
        exact IN _ 0 _ rfl (by omega) (by omega) hF hx (fun i hi => by omega)
  refine Ev.aload_n dX4_tellHundredths_0 (Eq.refl 1) rfl ?_
  refine Ev.getL dX4_tellHundredths_1 (Eq.refl 4) fg_X4_26 (lyS0 (by assumption)) rfl ?_
  rw [sa5]
  refine Ev.lconst0 dX4_tellHundredths_4 (Eq.refl 5) ?_
  refine Ev.ifl_gt (tgt := 10) dX4_tellHundredths_5 (Eq.refl 6) dX4_tellHundredths_6 (Eq.refl 9) (by decide) ⟨by omega, by omega⟩ ⟨by omega, by omega⟩ (fun c5 => ?_) (fun c5 => ?_)
  · refine Ev.iconst dX4_tellHundredths_10 (Eq.refl 11) ?_
    refine Ev.is2 dX4_tellHundredths_11 (Eq.refl 12) (by decide) rfl ?_
    exact OUT _ 0 _ _ rfl (by omega) Fr.rf (fun i a hi => by omega)
  · omega
theorem c_wayFrom {h : Hp} {s a b x : Nat} (hR : ROk h.2.2) (hs : isShp s) (ha : a < 10) (hb : b < 10) (hx : x < 3) : Ev mX4_wayFrom 0 0 (entL [.ref s, iv (a : Int), iv (b : Int), iv (x : Int)] 4) [] h (PE (h.1 (s + 3) (b * 3 + x) - h.1 (s + 3) (a * 3 + x)) h) := by
  show Ev mX4_wayFrom 0 0 [some (.ref s), some (iv (a : Int)), some (iv (b : Int)), some (iv (x : Int))] [] h _
  have q1 : ((b : Int) * 3 + (x : Int)).toNat = b * 3 + x := by omega
  have q2 : ((a : Int) * 3 + (x : Int)).toNat = a * 3 + x := by omega
  refine Ev.aload_n dX4_wayFrom_0 (Eq.refl 1) rfl ?_
  refine Ev.getR dX4_wayFrom_1 (Eq.refl 4) fg_X4_20 (lyS0 (by assumption)) rfl (rS2 hR (by assumption)) ?_
  refine Ev.iload_n dX4_wayFrom_4 (Eq.refl 5) rfl ?_
  refine Ev.iconst dX4_wayFrom_5 (Eq.refl 6) ?_
  refine Ev.imul dX4_wayFrom_6 (Eq.refl 7) ?_
  refine Ev.iload_n dX4_wayFrom_7 (Eq.refl 8) rfl ?_
  refine Ev.iadd dX4_wayFrom_8 (Eq.refl 9) ?_
  refine Ev.iaload dX4_wayFrom_9 (Eq.refl 10) (lyS3 (by assumption)) rfl (by omega) (by decide) q1 ?_
  refine Ev.aload_n dX4_wayFrom_10 (Eq.refl 11) rfl ?_
  refine Ev.getR dX4_wayFrom_11 (Eq.refl 14) fg_X4_20 (lyS0 (by assumption)) rfl (rS2 hR (by assumption)) ?_
  refine Ev.iload_n dX4_wayFrom_14 (Eq.refl 15) rfl ?_
  refine Ev.iconst dX4_wayFrom_15 (Eq.refl 16) ?_
  refine Ev.imul dX4_wayFrom_16 (Eq.refl 17) ?_
  refine Ev.iload_n dX4_wayFrom_17 (Eq.refl 18) rfl ?_
  refine Ev.iadd dX4_wayFrom_18 (Eq.refl 19) ?_
  refine Ev.iaload dX4_wayFrom_19 (Eq.refl 20) (lyS3 (by assumption)) rfl (by omega) (by decide) q2 ?_
  refine Ev.isub dX4_wayFrom_20 (Eq.refl 21) ?_
  exact Ev.iret dX4_wayFrom_21 rfl (PE.mk)
def hUs (h : Hp) (s : Nat) (v : Nv) : Prop := ∀ j a, j < vJ v → a < 3 → h.1 (s + 3) (j * 3 + a) = hU v j a
theorem c_tellLen {h : Hp} {n s : Nat} (hR : ROk h.2.2) (hn : isNet n) (hs : isShp s) (ok : NOk h n) (ha : aH (cV h n) (hgV (cV h n))) (hu : hUs h s (cV h n)) : Ev mX4_tellLengths 1 0 (entL [.ref s, .ref n] 8) [] h (PV (fun h' => Fr (fun i => i = s + 4) h h' ∧ ∀ k, k < vS (cV h n) → h'.1 (s + 4) k = len (cV h n) k)) := by
  show Ev mX4_tellLengths 1 0 [some (.ref s), some (.ref n), none, none, none, none, none, none] [] h _
  have hv : VOk (cV h n) := ok.2.2.2.2.2
  have hJ := hv.1
  have hS14 := hv.2.1
  have eSt := cV_S ok
  have hE := hv.2.2.2.1
  have eA := fun (k : Nat) (hk : k < vS (cV h n)) => cV_A (s := k) ok (by omega)
  have eB := fun (k : Nat) (hk : k < vS (cV h n)) => cV_B (s := k) ok (by omega)
  generalize hve : cV h n = v at *
  have OUT : ∀ (m k : Nat) (g : Hp) (x y z : Option Value), vS v - k = m → k ≤ vS v → Fr (fun i => i = s + 4) h g → (∀ i, i < k → g.1 (s + 4) i = len v i) → Ev mX4_tellLengths 1 2 [some (.ref s), some (.ref n), some (iv (k : Int)), x, none, y, z, none] [] g (PV (fun h' => Fr (fun i => i = s + 4) h h' ∧ ∀ k, k < vS v → h'.1 (s + 4) k = len v k)) := by
    intro m
    induction m using Nat.strongRecOn with
    | ind m ih =>
      intro k g x y z hm hk hF hx
      have hR := hF.R hR
      have sm' := hF.same (n := n) (fun i h1 h2 => by omega)
      have g2 : g.1 n 2 = (vS v : Int) := (sm' 0 (by omega) 2).trans eSt
      have e3 : ∀ j, g.1 (s + 3) j = h.1 (s + 3) j := fun j => hF.1 (s + 3) (by omega) j
      have IN : ∀ (m2 a : Nat) (w : Option Value), 3 - a = m2 → a ≤ 3 → k < vS v → Ev mX4_tellLengths 1 15 [some (.ref s), some (.ref n), some (iv (k : Int)), some (jv (sm (fun x => wy v k x * wy v k x) a)), none, some (iv (a : Int)), w, none] [] g (PV (fun h' => Fr (fun i => i = s + 4) h h' ∧ ∀ k, k < vS v → h'.1 (s + 4) k = len v k)) := by
        intro m2
        induction m2 using Nat.strongRecOn with
        | ind m2 ih2 =>
          intro a w hm2 ha3 hk2
          have b := hE k hk2
          have gA : g.1 (n + 3) k = (vA v k : Int) := (sm' 3 (by omega) k).trans (eA k hk2)
          have gB : g.1 (n + 4) k = (vB v k : Int) := (sm' 4 (by omega) k).trans (eB k hk2)
          refine Ev.iload dX4_tellLengths_15 (Eq.refl 17) rfl ?_
          refine Ev.iconst dX4_tellLengths_17 (Eq.refl 18) ?_
          refine Ev.icmp_ge (tgt := 56) dX4_tellLengths_18 (Eq.refl 21) (by decide) ⟨by omega, by omega⟩ ⟨by omega, by omega⟩ (fun c18 => ?_) (fun c18 => ?_)
          · have e : a = 3 := by omega
            subst e
            have hl := lnq_b hv ha hk2
            have el : sm (fun x => wy v k x * wy v k x) 3 = lnq v k := by show 0 + wy v k 0 * wy v k 0 + wy v k 1 * wy v k 1 + wy v k 2 * wy v k 2 = _; unfold lnq; omega
            rw [el]
            refine Ev.aload_n dX4_tellLengths_56 (Eq.refl 57) rfl ?_
            refine Ev.getR dX4_tellLengths_57 (Eq.refl 60) fg_X4_23 (lyS0 (by assumption)) rfl (rS3 hR (by assumption)) ?_
            refine Ev.iload_n dX4_tellLengths_60 (Eq.refl 61) rfl ?_
            refine Ev.lload_n dX4_tellLengths_61 (Eq.refl 62) rfl ?_
            refine Ev.cs1E dX4_tellLengths_62 (Eq.refl 65) cw_X4_112 (Nat.le_of_ble_eq_true rfl) (by decide) rfl (Nat.le_of_ble_eq_true rfl) (c_wholeRoot (by omega) (by omega)) ?_
            refine Ev.iastore dX4_tellLengths_65 (Eq.refl 66) (lyS4 (by assumption)) rfl (by omega) (by decide) (by first | with_reducible exact Int.toNat_natCast _ | exact Eq.refl _) ?_
            refine Ev.ii2 dX4_tellLengths_66 (Eq.refl 69) (by decide) rfl ?_
            refine Ev.goto' (pc' := 2) dX4_tellLengths_69 (by decide) ?_
            exact ih _ (by omega) (k + 1) _ _ _ _ rfl (by omega) (hF.wI rfl) (fun i hi => if e : i = k then by rw [e, hI_eq]; rfl else by rw [hI_nk e]; exact hx i (by omega))
          · have h3 : a < 3 := by omega
            have wb := wy_b hv ha hk2 h3
            have we : g.1 (s + 3) (vB v k * 3 + a) - g.1 (s + 3) (vA v k * 3 + a) = wy v k a := by rw [e3, e3, hu _ a b.2.1 h3, hu _ a b.1 h3]; rfl
            refine Ev.aload_n dX4_tellLengths_21 (Eq.refl 22) rfl ?_
            refine Ev.aload_n dX4_tellLengths_22 (Eq.refl 23) rfl ?_
            refine Ev.getR dX4_tellLengths_23 (Eq.refl 26) fg_X4_72 (lyN0 (by assumption)) rfl (rN8 hR (by assumption)) ?_
            refine Ev.iload_n dX4_tellLengths_26 (Eq.refl 27) rfl ?_
            refine Ev.iaload dX4_tellLengths_27 (Eq.refl 28) (lyN3 (by assumption)) rfl (by omega) (by decide) (by first | with_reducible exact Int.toNat_natCast _ | exact Eq.refl _) ?_
            rw [gA]
            refine Ev.aload_n dX4_tellLengths_28 (Eq.refl 29) rfl ?_
            refine Ev.getR dX4_tellLengths_29 (Eq.refl 32) fg_X4_79 (lyN0 (by assumption)) rfl (rN9 hR (by assumption)) ?_
            refine Ev.iload_n dX4_tellLengths_32 (Eq.refl 33) rfl ?_
            refine Ev.iaload dX4_tellLengths_33 (Eq.refl 34) (lyN4 (by assumption)) rfl (by omega) (by decide) (by first | with_reducible exact Int.toNat_natCast _ | exact Eq.refl _) ?_
            rw [gB]
            refine Ev.iload dX4_tellLengths_34 (Eq.refl 36) rfl ?_
            refine Ev.cv3E dX4_tellLengths_36 (Eq.refl 39) cw_X4_108 (Nat.le_of_ble_eq_true rfl) (by decide) (lyS0 (by assumption)) rfl rfl (Nat.le_of_ble_eq_true rfl) (c_wayFrom hR (by assumption) (by omega) (by omega) (by omega)) ?_
            rw [we]
            refine Ev.i2l dX4_tellLengths_39 (Eq.refl 40) ⟨by unfold Ab at wb; omega, by unfold Ab at wb; omega⟩ ?_
            refine Ev.ls6 dX4_tellLengths_40 (Eq.refl 42) (by decide) rfl ?_
            refine Ev.lload_n dX4_tellLengths_42 (Eq.refl 43) rfl ?_
            refine Ev.lload dX4_tellLengths_43 (Eq.refl 45) rfl ?_
            refine Ev.lload dX4_tellLengths_45 (Eq.refl 47) rfl ?_
            refine Ev.lmul dX4_tellLengths_47 (Eq.refl 48) ?_
            refine Ev.ladd dX4_tellLengths_48 (Eq.refl 49) ?_
            refine Ev.ls3 dX4_tellLengths_49 (Eq.refl 50) (by decide) rfl ?_
            refine Ev.ii5 dX4_tellLengths_50 (Eq.refl 53) (by decide) rfl ?_
            refine Ev.goto' (pc' := 15) dX4_tellLengths_53 (by decide) ?_
            exact ih2 _ (by omega) (a + 1) _ rfl (by omega) hk2
      refine Ev.iload_n dX4_tellLengths_2 (Eq.refl 3) rfl ?_
      refine Ev.aload_n dX4_tellLengths_3 (Eq.refl 4) rfl ?_
      refine Ev.getI dX4_tellLengths_4 (Eq.refl 7) fg_X4_66 (lyN0 (by assumption)) rfl ?_
      rw [g2]
      refine Ev.icmp_ge (tgt := 72) dX4_tellLengths_7 (Eq.refl 10) (by decide) ⟨by omega, by omega⟩ ⟨by omega, by omega⟩ (fun c7 => ?_) (fun c7 => ?_)
      · have e : k = vS v := by omega
        subst e
        exact Ev.vret dX4_tellLengths_72 rfl (⟨rfl, hF, hx⟩)
      · refine Ev.lconst0 dX4_tellLengths_10 (Eq.refl 11) ?_
        refine Ev.ls3 dX4_tellLengths_11 (Eq.refl 12) (by decide) rfl ?_
        refine Ev.iconst dX4_tellLengths_12 (Eq.refl 13) ?_
        refine Ev.is5 dX4_tellLengths_13 (Eq.refl 15) (by decide) rfl ?_
        exact IN _ 0 _ rfl (by omega) (by omega)
  refine Ev.iconst dX4_tellLengths_0 (Eq.refl 1) ?_
  refine Ev.is2 dX4_tellLengths_1 (Eq.refl 2) (by decide) rfl ?_
  exact OUT _ 0 _ _ _ _ rfl (by omega) Fr.rf (fun i hi => by omega)
/-- what find leaves behind it -/
def ShOk (h : Hp) (s : Nat) (v : Nv) : Prop := aH v (hgV v) ∧ ShA h s v ∧ hUs h s v ∧ ∀ k, k < vS v → h.1 (s + 4) k = len v k
def fnd (h : Hp) (n s : Nat) (x : Int) (h' : Hp) : Prop := (¬ aH (cV h n) (hgV (cV h n)) ∧ x = 0 ∧ h' = h) ∨ (aH (cV h n) (hgV (cV h n)) ∧ x = 1 ∧ Fr (inS s) h h' ∧ ShOk h' s (cV h n))
theorem Fm.fr {s : Nat} {h g : Hp} (a : Fm s h g) : Fr (inS s) h g := ⟨fun i _ j => by rw [a.1], a.2.2, a.2.1⟩
theorem c_find {h : Hp} {n s : Nat} (hR : ROk h.2.2) (hn : isNet n) (hs : isShp s) (ok : NOk h n) : Ev mX4_find 3 0 (entL [.ref s, .ref n] 2) [] h (PI (fun x h' => fnd h n s x h')) := by
  show Ev mX4_find 3 0 [some (.ref s), some (.ref n)] [] h _
  have hv : VOk (cV h n) := ok.2.2.2.2.2
  refine Ev.aload_n dX4_find_0 (Eq.refl 1) rfl ?_
  refine Ev.cv0E dX4_find_1 (Eq.refl 4) cw_X4_30 (Nat.le_of_ble_eq_true rfl) (by decide) (lyN0 (by assumption)) rfl rfl (Nat.le_of_ble_eq_true rfl) (c_allHung hR (by assumption) (by assumption)) ?_
  refine Ev.if_neB (tgt := 9) dX4_find_4 (Eq.refl 7) (by decide) (fun c4 => ?_) (fun c4 => ?_)
  · refine Ev.aload_n dX4_find_9 (Eq.refl 10) rfl ?_
    refine Ev.aload_n dX4_find_10 (Eq.refl 11) rfl ?_
    refine Ev.cv1V dX4_find_11 (Eq.refl 14) cw_X4_36 (Nat.le_of_ble_eq_true rfl) (by decide) (lyS0 (by assumption)) rfl rfl (Nat.le_of_ble_eq_true rfl) (c_numFree hR (by assumption) (by assumption) (by assumption)) (fun g11 hp11 => ?_)
    obtain ⟨hF1, nf⟩ := hp11
    have hR := hF1.R hR
    have sm1 := hF1.same (n := n) (fun i h1 h2 => by omega)
    have ok1 := sm1.ok ok
    have nf1 : NF g11 s (cV g11 n) := by rw [sm1.V]; exact nf
    refine Ev.aload_n dX4_find_14 (Eq.refl 15) rfl ?_
    refine Ev.aload_n dX4_find_15 (Eq.refl 16) rfl ?_
    refine Ev.cv1V dX4_find_16 (Eq.refl 19) cw_X4_40 (Nat.le_of_ble_eq_true rfl) (by decide) (lyS0 (by assumption)) rfl rfl (Nat.le_of_ble_eq_true rfl) (c_setUp hR (by assumption) (by assumption) (by assumption) (by assumption)) (fun g16 hp16 => ?_)
    obtain ⟨hF2, hW⟩ := hp16
    rw [sm1.V] at hW
    have hR2 : ROk g16.2.2 := by rw [hF2.2.1]; exact hR
    have g4 : g16.1 s 4 = (vN (cV h n) : Int) := by rw [hF2.1]; exact nf.1
    refine Ev.aload_n dX4_find_19 (Eq.refl 20) rfl ?_
    refine Ev.cv0I dX4_find_20 (Eq.refl 23) cw_X4_43 (Nat.le_of_ble_eq_true rfl) (by decide) (lyS0 (by assumption)) rfl rfl (Nat.le_of_ble_eq_true rfl) (c_elim hR2 hs hv c4 g4 hW) (fun x20 g20 hp20 => ?_)
    obtain ⟨rfl, hF3, hW3, h5⟩ := hp20
    have hR : ROk g20.2.2 := by rw [hF3.2.1]; exact hR2
    have eI : g20.1 = g11.1 := hF3.1.trans hF2.1
    have ok3 : NOk g20 n := NOk_1 eI ok1
    have ev3 : cV g20 n = cV h n := (cV_1 eI).trans sm1.V
    have sa : ShA g20 s (cV g20 n) := by rw [ev3]; exact ⟨NF_1 eI nf, hW3, h5⟩
    have ha3 : aH (cV g20 n) (hgV (cV g20 n)) := by rw [ev3]; exact c4
    have hFa : Fr (inS s) h g20 := (hF1.up (fun i e => show inS s i from by unfold inS; omega)).tr ((Fm.rf.tl hF2).fr.tr hF3.fr (fun _ z => z) (fun _ z => z)) (fun _ z => z) (fun _ z => z)
    refine Ev.if_ne (tgt := 28) dX4_find_23 (Eq.refl 26) (by decide) ⟨by omega, by omega⟩ (fun c23 => ?_) (fun c23 => ?_)
    · refine Ev.aload_n dX4_find_28 (Eq.refl 29) rfl ?_
      refine Ev.aload_n dX4_find_29 (Eq.refl 30) rfl ?_
      refine Ev.cv1V dX4_find_30 (Eq.refl 33) cw_X4_46 (Nat.le_of_ble_eq_true rfl) (by decide) (lyS0 (by assumption)) rfl rfl (Nat.le_of_ble_eq_true rfl) (c_tellHun hR (by assumption) (by assumption) (by assumption) (by assumption) (by assumption)) (fun g30 hp30 => ?_)
      obtain ⟨hF4, hu⟩ := hp30
      rw [ev3] at hu
      have hR := hF4.R hR
      have sm4 := hF4.same (n := n) (fun i h1 h2 => by omega)
      have ok4 := sm4.ok ok3
      have ev4 : cV g30 n = cV h n := sm4.V.trans ev3
      have hu4 : hUs g30 s (cV g30 n) := by rw [ev4]; exact hu
      have ha4 : aH (cV g30 n) (hgV (cV g30 n)) := by rw [ev4]; exact c4
      refine Ev.aload_n dX4_find_33 (Eq.refl 34) rfl ?_
      refine Ev.aload_n dX4_find_34 (Eq.refl 35) rfl ?_
      refine Ev.cv1V dX4_find_35 (Eq.refl 38) cw_X4_49 (Nat.le_of_ble_eq_true rfl) (by decide) (lyS0 (by assumption)) rfl rfl (Nat.le_of_ble_eq_true rfl) (c_tellLen hR (by assumption) (by assumption) (by assumption) (by assumption) (by assumption)) (fun g35 hp35 => ?_)
      obtain ⟨hF5, hl⟩ := hp35
      rw [ev4] at hl
      refine Ev.iconst dX4_find_38 (Eq.refl 39) ?_
      exact Ev.zret dX4_find_39 rfl (by first | exact bi01 _ | exact Or.inl rfl | exact Or.inr rfl | omega) (⟨_, rfl, Or.inr ⟨c4, rfl, hFa.tr (hF4.tr hF5 (U := inS s) (fun i e => by unfold inS; omega) (fun i e => by unfold inS; omega)) (fun _ z => z) (fun _ z => z), c4, ((by rw [ev3] at sa; exact sa : ShA g20 s (cV h n)).fr hv hF4 (fun i _ e => Or.inl e)).fr hv hF5 (fun i _ e => Or.inr e), fun j a hj h3 => by rw [hF5.1 (s + 3) (by omega)]; exact hu j a hj h3, hl⟩⟩)
    · omega
  · refine Ev.iconst dX4_find_7 (Eq.refl 8) ?_
    exact Ev.zret dX4_find_8 rfl (by first | exact bi01 _ | exact Or.inl rfl | exact Or.inr rfl | omega) (⟨_, rfl, Or.inl ⟨c4, rfl, rfl⟩⟩)
