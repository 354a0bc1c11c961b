/-! The model: notes, becomes, changes, undo -/
def Fn (h g : Hp) : Prop := g.2.2 = h.2.2 ∧ (∀ i, i ≠ 0 → i ≠ 4 → ∀ j, g.1 i j = h.1 i j) ∧ ∀ k, k ≠ 6 → g.1 0 k = h.1 0 k
theorem Fn.rf {h : Hp} : Fn h h := ⟨rfl, fun _ _ _ _ => rfl, fun _ _ => rfl⟩
theorem Fn.w {h g : Hp} {i k : Nat} {x : Int} (a : Fn h g) (hi : (i = 0 ∧ k = 6) ∨ i = 4) : Fn h (hI g i k x) := ⟨a.1, fun i' h1 h2 j => by rw [hI_rd, if_neg (by omega)]; exact a.2.1 i' h1 h2 j, fun k' q => by rw [hI_rd, if_neg (by omega)]; exact a.2.2 k' q⟩
theorem Fn.s {h g : Hp} (a : Fn h g) : g.1 2 = h.1 2 := funext fun j => a.2.1 2 (by omega) (by omega) j
abbrev rwP (h : Hp) (r : Nat) : Nat → Int := fun i => h.1 4 (124 * r + i)
theorem m_notes {h : Hp} {k : Nat} {pv : Nat → Nv} (hR : MOk h.2.2) (ok : GOk (h.1 2)) (hP : MP h k pv) : Ev mX8_notes 0 0 (entL [.ref 0] 2) [] h (PV (fun h' => Fn h h' ∧ MP h' (if k < 6 then k + 1 else 6) (fun t => if t = 0 then gV (h.1 2) else pv (t - 1)))) := by
  show Ev mX8_notes 0 0 [some (.ref 0), none] [] h _
  obtain ⟨e6, k6, hp⟩ := hP
  have COPY : ∀ (u : Nat) (g0 : Hp), u ≤ 5 → Fn h g0 → g0.1 0 6 = (u : Int) → (if k < 6 then k + 1 else 6) = u + 1 → (∀ t, t < u → GOk (rwP g0 (u - 1 - t)) ∧ gV (rwP g0 (u - 1 - t)) = pv t) → ∀ (m i : Nat) (g : Hp), 124 - i = m → i ≤ 124 → Fn g0 g → g.1 0 6 = (u : Int) → (∀ j, g.1 4 j = if 124 * u ≤ j ∧ j < 124 * u + i then h.1 2 (j - 124 * u) else g0.1 4 j) → Ev mX8_notes 0 51 [some (.ref 0), some (iv (i : Int))] [] g (PV (fun h' => Fn h h' ∧ MP h' (if k < 6 then k + 1 else 6) (fun t => if t = 0 then gV (h.1 2) else pv (t - 1)))) := by
    intro u g0 u5 hF0 e0 ek hp0 m
    induction m using Nat.strongRecOn with
    | ind m ih =>
      intro i g hm hi hF e6 hg
      have hF1 : Fn h g := ⟨hF.1.trans hF0.1, fun a h1 h2 j => (hF.2.1 a h1 h2 j).trans (hF0.2.1 a h1 h2 j), fun a q => (hF.2.2 a q).trans (hF0.2.2 a q)⟩
      have hR : MOk g.2.2 := by rw [hF1.1]; exact hR
      by_cases l : i < 124
      · have es : g.1 2 i = h.1 2 i := by rw [hF1.s]
        have q1 : ((124 : Int) * (u : Int) + (i : Int)).toNat = 124 * u + i := by omega
        refine Ev.iload_n dX8_notes_51 (Eq.refl 52) rfl ?_
        refine Ev.bipush dX8_notes_52 (Eq.refl 54) (by decide) ?_
        refine Ev.icmp_ge (tgt := 83) dX8_notes_54 (Eq.refl 57) (by decide) ⟨by omega, by omega⟩ ⟨by omega, by omega⟩ (fun c54 => ?_) (fun c54 => ?_)
        · omega
        · refine Ev.aload_n dX8_notes_57 (Eq.refl 58) rfl ?_
          refine Ev.getR dX8_notes_58 (Eq.refl 61) fg_X8_20 rfl rfl (rX8_5 hR) ?_
          refine Ev.bipush dX8_notes_61 (Eq.refl 63) (by decide) ?_
          refine Ev.aload_n dX8_notes_63 (Eq.refl 64) rfl ?_
          refine Ev.getI dX8_notes_64 (Eq.refl 67) fg_X8_128 rfl rfl ?_
          rw [e6]
          refine Ev.imul dX8_notes_67 (Eq.refl 68) ?_
          refine Ev.iload_n dX8_notes_68 (Eq.refl 69) rfl ?_
          refine Ev.iadd dX8_notes_69 (Eq.refl 70) ?_
          refine Ev.aload_n dX8_notes_70 (Eq.refl 71) rfl ?_
          refine Ev.getR dX8_notes_71 (Eq.refl 74) fg_X8_13 rfl rfl (rX8_3 hR) ?_
          refine Ev.iload_n dX8_notes_74 (Eq.refl 75) rfl ?_
          refine Ev.iaload dX8_notes_75 (Eq.refl 76) rfl rfl (by omega) (by decide) (by first | with_reducible exact Int.toNat_natCast _ | exact Eq.refl _) ?_
          rw [es]
          refine Ev.iastore dX8_notes_76 (Eq.refl 77) rfl rfl (by omega) (by decide) q1 ?_
          refine Ev.ii1 dX8_notes_77 (Eq.refl 80) (by decide) rfl ?_
          refine Ev.goto' (pc' := 51) dX8_notes_80 (by decide) ?_
          exact ih _ (by omega) (i + 1) _ rfl (by omega) (hF.w (by omega)) (by rw [hI_ni (by omega)]; exact e6) (fun j => by have z1 := hg j; rw [hI_rd]; have z2 : 124 * u + i - 124 * u = i := (by omega); grind)
      · have e : i = 124 := by omega
        subst e
        have FIN : MP (hI g 0 6 ((u : Int) + 1)) (if k < 6 then k + 1 else 6) (fun t => if t = 0 then gV (h.1 2) else pv (t - 1)) := by
          rw [ek]
          refine ⟨by rw [hI_eq]; push_cast; rfl, by omega, fun t ht => ?_⟩
          have er : (fun i => (hI g 0 6 ((u : Int) + 1)).1 4 (124 * (u + 1 - 1 - t) + i)) = rwP g (u + 1 - 1 - t) := funext fun i => hI_ni (by omega)
          rw [er]
          by_cases t0 : t = 0
          · subst t0
            have q := gExt (f := rwP g (u + 1 - 1 - 0)) (g := h.1 2) (fun i hi => by
              show g.1 4 (124 * (u + 1 - 1 - 0) + i) = _
              rw [hg, if_pos (by omega), show 124 * (u + 1 - 1 - 0) + i - 124 * u = i by omega]) ok
            exact ⟨q.2, q.1⟩
          · have q0 := hp0 (t - 1) (by omega)
            have q := gExt (f := rwP g (u + 1 - 1 - t)) (g := rwP g0 (u - 1 - (t - 1))) (fun i hi => by
              show g.1 4 (124 * (u + 1 - 1 - t) + i) = g0.1 4 (124 * (u - 1 - (t - 1)) + i)
              rw [hg, if_neg (by omega), show 124 * (u + 1 - 1 - t) + i = 124 * (u - 1 - (t - 1)) + i by omega]) q0.1
            exact ⟨q.2, by rw [q.1, q0.2]; show _ = if t = 0 then _ else _; rw [if_neg t0]⟩
        refine Ev.iload_n dX8_notes_51 (Eq.refl 52) rfl ?_
        refine Ev.bipush dX8_notes_52 (Eq.refl 54) (by decide) ?_
        refine Ev.icmp_ge (tgt := 83) dX8_notes_54 (Eq.refl 57) (by decide) ⟨by omega, by omega⟩ ⟨by omega, by omega⟩ (fun c54 => ?_) (fun c54 => ?_)
        · refine Ev.aload_n dX8_notes_83 (Eq.refl 84) rfl ?_
          refine Ev.dupR dX8_notes_84 (Eq.refl 85) ?_
          refine Ev.getI dX8_notes_85 (Eq.refl 88) fg_X8_128 rfl rfl ?_
          rw [e6]
          refine Ev.iconst dX8_notes_88 (Eq.refl 89) ?_
          refine Ev.iadd dX8_notes_89 (Eq.refl 90) ?_
          refine Ev.putI dX8_notes_90 (Eq.refl 93) fp_X8_128 rfl rfl (Or.inl rfl) ?_
          exact Ev.vret dX8_notes_93 rfl (⟨rfl, hF1.w (by omega), FIN⟩)
        · omega
  have SH : k = 6 → ∀ (m i : Nat) (g : Hp), 620 - i = m → i ≤ 620 → Fn h g → g.1 0 6 = 6 → (∀ j, g.1 4 j = if j < i then h.1 4 (j + 124) else h.1 4 j) → Ev mX8_notes 0 11 [some (.ref 0), some (iv (i : Int))] [] g (PV (fun h' => Fn h h' ∧ MP h' (if k < 6 then k + 1 else 6) (fun t => if t = 0 then gV (h.1 2) else pv (t - 1)))) := by
    intro ek m
    induction m using Nat.strongRecOn with
    | ind m ih =>
      intro i g hm hi hF e6 hg
      have hR : MOk g.2.2 := by rw [hF.1]; exact hR
      by_cases l : i < 620
      · have q1 : ((i : Int) + 124).toNat = i + 124 := by omega
        have eg : g.1 4 (i + 124) = h.1 4 (i + 124) := by rw [hg, if_neg (by omega)]
        refine Ev.iload_n dX8_notes_11 (Eq.refl 12) rfl ?_
        refine Ev.sipush dX8_notes_12 (Eq.refl 15) (by decide) ?_
        refine Ev.icmp_ge (tgt := 39) dX8_notes_15 (Eq.refl 18) (by decide) ⟨by omega, by omega⟩ ⟨by omega, by omega⟩ (fun c15 => ?_) (fun c15 => ?_)
        · omega
        · refine Ev.aload_n dX8_notes_18 (Eq.refl 19) rfl ?_
          refine Ev.getR dX8_notes_19 (Eq.refl 22) fg_X8_20 rfl rfl (rX8_5 hR) ?_
          refine Ev.iload_n dX8_notes_22 (Eq.refl 23) rfl ?_
          refine Ev.aload_n dX8_notes_23 (Eq.refl 24) rfl ?_
          refine Ev.getR dX8_notes_24 (Eq.refl 27) fg_X8_20 rfl rfl (rX8_5 hR) ?_
          refine Ev.iload_n dX8_notes_27 (Eq.refl 28) rfl ?_
          refine Ev.bipush dX8_notes_28 (Eq.refl 30) (by decide) ?_
          refine Ev.iadd dX8_notes_30 (Eq.refl 31) ?_
          refine Ev.iaload dX8_notes_31 (Eq.refl 32) rfl rfl (by omega) (by decide) q1 ?_
          rw [eg]
          refine Ev.iastore dX8_notes_32 (Eq.refl 33) rfl rfl (by omega) (by decide) (by first | with_reducible exact Int.toNat_natCast _ | exact Eq.refl _) ?_
          refine Ev.ii1 dX8_notes_33 (Eq.refl 36) (by decide) rfl ?_
          refine Ev.goto' (pc' := 11) dX8_notes_36 (by decide) ?_
          exact ih _ (by omega) (i + 1) _ rfl (by omega) (hF.w (by omega)) (by rw [hI_ni (by omega)]; exact e6) (fun j => by have z1 := hg j; rw [hI_rd]; grind)
      · have e : i = 620 := by omega
        subst e
        refine Ev.iload_n dX8_notes_11 (Eq.refl 12) rfl ?_
        refine Ev.sipush dX8_notes_12 (Eq.refl 15) (by decide) ?_
        refine Ev.icmp_ge (tgt := 39) dX8_notes_15 (Eq.refl 18) (by decide) ⟨by omega, by omega⟩ ⟨by omega, by omega⟩ (fun c15 => ?_) (fun c15 => ?_)
        · refine Ev.aload_n dX8_notes_39 (Eq.refl 40) rfl ?_
          refine Ev.dupR dX8_notes_40 (Eq.refl 41) ?_
          refine Ev.getI dX8_notes_41 (Eq.refl 44) fg_X8_128 rfl rfl ?_
          rw [e6]
          refine Ev.iconst dX8_notes_44 (Eq.refl 45) ?_
          refine Ev.isub dX8_notes_45 (Eq.refl 46) ?_
          refine Ev.putI dX8_notes_46 (Eq.refl 49) fp_X8_128 rfl rfl (Or.inl rfl) ?_
          refine Ev.iconst dX8_notes_49 (Eq.refl 50) ?_
          refine Ev.is1 dX8_notes_50 (Eq.refl 51) (by decide) rfl ?_
          exact COPY 5 _ (by omega) (hF.w (by omega)) (by rw [hI_eq]; rfl) (by rw [if_neg (by omega)]) (fun t ht => by have z := hp t (by omega); have zq := gExt (f := rwP (hI g 0 6 (6 - 1)) (5 - 1 - t)) (g := fun i => h.1 4 (124 * (k - 1 - t) + i)) (fun i hi => by show (hI g 0 6 (6 - 1)).1 4 (124 * (5 - 1 - t) + i) = h.1 4 (124 * (k - 1 - t) + i); rw [hI_ni (by omega), hg, if_pos (by omega), show 124 * (5 - 1 - t) + i + 124 = 124 * (k - 1 - t) + i by omega]) z.1; exact ⟨zq.2, zq.1.trans z.2⟩) _ 0 _ rfl (by omega) Fn.rf (by rw [hI_eq]; rfl) (fun j => by rw [if_neg (by omega)])
        · omega
  by_cases k5 : k = 6
  · subst k5
    refine Ev.aload_n dX8_notes_0 (Eq.refl 1) rfl ?_
    refine Ev.getI dX8_notes_1 (Eq.refl 4) fg_X8_128 rfl rfl ?_
    rw [e6]
    refine Ev.bipush dX8_notes_4 (Eq.refl 6) (by decide) ?_
    refine Ev.icmp_ne (tgt := 49) dX8_notes_6 (Eq.refl 9) (by decide) ⟨by omega, by omega⟩ ⟨by omega, by omega⟩ (fun c6 => ?_) (fun c6 => ?_)
    · omega
    · refine Ev.iconst dX8_notes_9 (Eq.refl 10) ?_
      refine Ev.is1 dX8_notes_10 (Eq.refl 11) (by decide) rfl ?_
      exact SH rfl _ 0 _ rfl (by omega) Fn.rf e6 (fun j => by rw [if_neg (by omega)])
  · refine Ev.aload_n dX8_notes_0 (Eq.refl 1) rfl ?_
    refine Ev.getI dX8_notes_1 (Eq.refl 4) fg_X8_128 rfl rfl ?_
    rw [e6]
    refine Ev.bipush dX8_notes_4 (Eq.refl 6) (by decide) ?_
    refine Ev.icmp_ne (tgt := 49) dX8_notes_6 (Eq.refl 9) (by decide) ⟨by omega, by omega⟩ ⟨by omega, by omega⟩ (fun c6 => ?_) (fun c6 => ?_)
    · refine Ev.iconst dX8_notes_49 (Eq.refl 50) ?_
      refine Ev.is1 dX8_notes_50 (Eq.refl 51) (by decide) rfl ?_
      exact COPY k h (by omega) Fn.rf e6 (by rw [if_pos (by omega)]) hp _ 0 _ rfl (by omega) Fn.rf e6 (fun j => by rw [if_neg (by omega)])
    · omega
theorem MInv.B {h : Hp} {s : St} (I : MInv h s) : MB h (sV s) := ⟨I.1, I.2.1.1, I.2.1.2⟩
theorem MInv.ch {h g : Hp} {s : St} {v : Nv} (I : MInv h s) (hF : Fn h g) (hP : MP g (if sK s < 6 then sK s + 1 else 6) (fun t => if t = 0 then gV (h.1 2) else sP s (t - 1))) (g' : Hp) (e0 : g'.2.2 = g.2.2) (e1 : ∀ j, g'.1 1 j = g.1 1 j) (e4 : ∀ j, g'.1 4 j = g.1 4 j) (e02 : g'.1 0 2 = g.1 0 2) (e06 : g'.1 0 6 = g.1 0 6) (e2 : GOk (g'.1 2) ∧ gV (g'.1 2) = v) : MInv g' (psh s v) := by
  obtain ⟨hR, ⟨ok, hV⟩, hT, _⟩ := I
  refine ⟨by rw [e0, hF.1]; exact hR, e2, ⟨?_, hT.2.1, fun k hk => ?_⟩, ?_⟩
  · rw [e02, hF.2.2 2 (by omega)]; exact hT.1
  · rw [e1, hF.2.1 1 (by omega) (by omega)]; exact hT.2.2 k hk
  · rw [hV] at hP
    exact hP.c e06 e4
theorem m_becomes {h : Hp} {s : St} {p : Nat} {y x : Int} (I : MInv h s) (hy : y = (p : Int)) (hp : p < 124) (hx : I32 x) (hb : I32 (h.1 2 p)) : Ev mX8_becomes 1 0 (entL [.ref 0, iv y, iv x] 4) [] h (PI (fun r h' => (h.1 2 p = x ∧ r = -2 ∧ MInv h' s) ∨ (h.1 2 p ≠ x ∧ r = h.1 2 p ∧ ∀ v, gV (up (h.1 2) p x) = v ∧ GOk (up (h.1 2) p x) → MInv h' (psh s v)))) := by
  show Ev mX8_becomes 1 0 [some (.ref 0), some (iv y), some (iv x), none] [] h _
  subst hy
  have hR := I.1
  have ok := I.2.1.1
  have hP := I.2.2.2
  obtain ⟨x1, x2⟩ := hx
  obtain ⟨b1, b2⟩ := hb
  refine Ev.aload_n dX8_becomes_0 (Eq.refl 1) rfl ?_
  refine Ev.getR dX8_becomes_1 (Eq.refl 4) fg_X8_13 rfl rfl (rX8_3 hR) ?_
  refine Ev.iload_n dX8_becomes_4 (Eq.refl 5) rfl ?_
  refine Ev.iaload dX8_becomes_5 (Eq.refl 6) rfl rfl (by omega) (by decide) (by first | with_reducible exact Int.toNat_natCast _ | exact Eq.refl _) ?_
  refine Ev.iload_n dX8_becomes_6 (Eq.refl 7) rfl ?_
  refine Ev.icmp_ne (tgt := 13) dX8_becomes_7 (Eq.refl 10) (by decide) ⟨by omega, by omega⟩ ⟨by omega, by omega⟩ (fun c7 => ?_) (fun c7 => ?_)
  · refine Ev.aload_n dX8_becomes_13 (Eq.refl 14) rfl ?_
    refine Ev.cv0V dX8_becomes_14 (Eq.refl 17) cw_X8_187 (Nat.le_of_ble_eq_true rfl) (by decide) rfl rfl rfl (Nat.le_of_ble_eq_true rfl) (m_notes hR (by assumption) (by assumption)) (fun g14 hp14 => ?_)
    obtain ⟨hF, hP2⟩ := hp14
    have hR : MOk g14.2.2 := by rw [hF.1]; exact hR
    refine Ev.aload_n dX8_becomes_17 (Eq.refl 18) rfl ?_
    refine Ev.getR dX8_becomes_18 (Eq.refl 21) fg_X8_13 rfl rfl (rX8_3 hR) ?_
    refine Ev.iload_n dX8_becomes_21 (Eq.refl 22) rfl ?_
    refine Ev.iaload dX8_becomes_22 (Eq.refl 23) rfl rfl (by omega) (by decide) (by first | with_reducible exact Int.toNat_natCast _ | exact Eq.refl _) ?_
    rw [hF.s]
    refine Ev.is3 dX8_becomes_23 (Eq.refl 24) (by decide) rfl ?_
    refine Ev.aload_n dX8_becomes_24 (Eq.refl 25) rfl ?_
    refine Ev.getR dX8_becomes_25 (Eq.refl 28) fg_X8_13 rfl rfl (rX8_3 hR) ?_
    refine Ev.iload_n dX8_becomes_28 (Eq.refl 29) rfl ?_
    refine Ev.iload_n dX8_becomes_29 (Eq.refl 30) rfl ?_
    refine Ev.iastore dX8_becomes_30 (Eq.refl 31) rfl rfl (by omega) (by decide) (by first | with_reducible exact Int.toNat_natCast _ | exact Eq.refl _) ?_
    refine Ev.iload_n dX8_becomes_31 (Eq.refl 32) rfl ?_
    exact Ev.iret dX8_becomes_32 rfl (⟨_, rfl, Or.inr ⟨c7, rfl, fun v hv => I.ch hF hP2 _ rfl (fun j => hI_ni (by omega)) (fun j => hI_ni (by omega)) (hI_ni (by omega)) (hI_ni (by omega)) (by rw [show (hI g14 2 p x).1 2 = up (h.1 2) p x from by rw [← hF.s]; exact hI_up]; exact ⟨hv.2, hv.1⟩)⟩⟩)
  · refine Ev.bipush dX8_becomes_10 (Eq.refl 12) (by decide) ?_
    exact Ev.iret dX8_becomes_12 rfl (⟨_, rfl, Or.inl ⟨c7, rfl, I⟩⟩)
section MCH
variable {h : Hp} {s : St}
theorem m_density {k q : Int} (I : MInv h s) (hk : I32 k) (hq : I32 q) : Ev mX8_density 2 0 (entL [.ref 0, iv k, iv q] 3) [] h (PM (aDens s k q)) := by
  show Ev mX8_density 2 0 [some (.ref 0), some (iv k), some (iv q)] [] h _
  have TAIL : ∀ h, MInv h s → Ev mX8_density 2 5 [some (.ref 0), some (iv k), some (iv q)] [] h (PM (aDens s k q)) := by
    intro h I
    have B := I.B
    have i1 : I32 1 := ⟨by omega, by omega⟩
    have i5 : I32 5 := ⟨by omega, by omega⟩
    by_cases c : isS (sV s) k ∧ 1 ≤ q ∧ q ≤ 5
    · obtain ⟨n, rfl⟩ := Int.eq_ofNat_of_zero_le c.1.1
      have hn : n < vS (sV s) := by have := c.1.2; omega
      have hS14 := B.vk.2.1
      have eQ : h.1 2 (54 + 5 * n + 2) = vQ (sV s) n := by have := gQ (f := h.1 2) (s := n) (by rw [B.s1]; omega); rw [B.2.2] at this; exact this
      have bQ := B.vk.2.2.2.1 n hn
      have hG := gQ1 (f := h.1 2) (k := n) (x := q) B.2.1 (by rw [B.2.2]; exact hn) c.2
      rw [B.2.2] at hG
      have ea : aDens s (n : Int) q = if vQ (sV s) n = q then (-2, s) else (vQ (sV s) n, psh s (vQ1 (sV s) n q)) := if_pos c
      refine Ev.aload_n dX8_density_5 (Eq.refl 6) rfl ?_
      refine Ev.iload_n dX8_density_6 (Eq.refl 7) rfl ?_
      refine Ev.cv1E dX8_density_7 (Eq.refl 10) cw_X8_190 (Nat.le_of_ble_eq_true rfl) (by decide) rfl rfl rfl (Nat.le_of_ble_eq_true rfl) (q_isStrand B hk) ?_
      refine Ev.if_eqB (tgt := 38) dX8_density_10 (Eq.refl 13) (by decide) (fun c10 => ?_) (fun c10 => ?_)
      · exact absurd c.1 c10
      · refine Ev.iload_n dX8_density_13 (Eq.refl 14) rfl ?_
        refine Ev.iconst dX8_density_14 (Eq.refl 15) ?_
        refine Ev.iconst dX8_density_15 (Eq.refl 16) ?_
        refine Ev.cs3E dX8_density_16 (Eq.refl 19) cw_X8_73 (Nat.le_of_ble_eq_true rfl) (by decide) rfl (Nat.le_of_ble_eq_true rfl) (m_in (by assumption) (by assumption) (by assumption)) ?_
        refine Ev.if_eqB (tgt := 38) dX8_density_19 (Eq.refl 22) (by decide) (fun c19 => ?_) (fun c19 => ?_)
        · exact absurd c.2 c19
        · refine Ev.aload_n dX8_density_22 (Eq.refl 23) rfl ?_
          refine Ev.bipush dX8_density_23 (Eq.refl 25) (by decide) ?_
          refine Ev.iconst dX8_density_25 (Eq.refl 26) ?_
          refine Ev.iload_n dX8_density_26 (Eq.refl 27) rfl ?_
          refine Ev.imul dX8_density_27 (Eq.refl 28) ?_
          refine Ev.iadd dX8_density_28 (Eq.refl 29) ?_
          refine Ev.iconst dX8_density_29 (Eq.refl 30) ?_
          refine Ev.iadd dX8_density_30 (Eq.refl 31) ?_
          refine Ev.iload_n dX8_density_31 (Eq.refl 32) rfl ?_
          refine Ev.cv2I dX8_density_32 (Eq.refl 35) cw_X8_193 (Nat.le_of_ble_eq_true rfl) (by decide) rfl rfl rfl (Nat.le_of_ble_eq_true rfl) (m_becomes (p := 54 + 5 * n + 2) I (by push_cast; omega) (by omega) hq (by rw [eQ]; exact ⟨by omega, by omega⟩)) (fun x32 g32 hp32 => ?_)
          rw [eQ] at hp32
          refine Ev.goto' (pc' := 39) dX8_density_35 (by decide) ?_
          exact Ev.iret dX8_density_39 rfl ((by rw [ea]; rcases hp32 with ⟨z1, rfl, z3⟩ | ⟨z1, rfl, z3⟩ <;> first | (rw [if_pos z1]; exact ⟨_, rfl, rfl, z3⟩) | (rw [if_neg z1]; exact ⟨_, rfl, rfl, z3 _ hG⟩)))
    · have ea : aDens s k q = (-1, s) := if_neg c
      refine Ev.aload_n dX8_density_5 (Eq.refl 6) rfl ?_
      refine Ev.iload_n dX8_density_6 (Eq.refl 7) rfl ?_
      refine Ev.cv1E dX8_density_7 (Eq.refl 10) cw_X8_190 (Nat.le_of_ble_eq_true rfl) (by decide) rfl rfl rfl (Nat.le_of_ble_eq_true rfl) (q_isStrand B hk) ?_
      refine Ev.if_eqB (tgt := 38) dX8_density_10 (Eq.refl 13) (by decide) (fun c10 => ?_) (fun c10 => ?_)
      · refine Ev.iconst dX8_density_38 (Eq.refl 39) ?_
        exact Ev.iret dX8_density_39 rfl ((by rw [ea]; exact ⟨_, rfl, rfl, I⟩))
      · refine Ev.iload_n dX8_density_13 (Eq.refl 14) rfl ?_
        refine Ev.iconst dX8_density_14 (Eq.refl 15) ?_
        refine Ev.iconst dX8_density_15 (Eq.refl 16) ?_
        refine Ev.cs3E dX8_density_16 (Eq.refl 19) cw_X8_73 (Nat.le_of_ble_eq_true rfl) (by decide) rfl (Nat.le_of_ble_eq_true rfl) (m_in (by assumption) (by assumption) (by assumption)) ?_
        refine Ev.if_eqB (tgt := 38) dX8_density_19 (Eq.refl 22) (by decide) (fun c19 => ?_) (fun c19 => ?_)
        · refine Ev.iconst dX8_density_38 (Eq.refl 39) ?_
          exact Ev.iret dX8_density_39 rfl ((by rw [ea]; exact ⟨_, rfl, rfl, I⟩))
        · exact absurd ⟨c10, c19⟩ c
  refine Ev.aload_n dX8_density_0 (Eq.refl 1) rfl ?_
  refine Ev.iconst dX8_density_1 (Eq.refl 2) ?_
  refine Ev.putI dX8_density_2 (Eq.refl 5) fp_X8_69 rfl rfl (Or.inl rfl) ?_
  exact TAIL _ (I.k (Mk.rf.w (by omega)))
theorem m_want {k q : Int} (I : MInv h s) (hk : I32 k) (hq : I32 q) : Ev mX8_want 2 0 (entL [.ref 0, iv k, iv q] 3) [] h (PM (aWant s k q)) := by
  show Ev mX8_want 2 0 [some (.ref 0), some (iv k), some (iv q)] [] h _
  have TAIL : ∀ h, MInv h s → Ev mX8_want 2 5 [some (.ref 0), some (iv k), some (iv q)] [] h (PM (aWant s k q)) := by
    intro h I
    have B := I.B
    have i1 : I32 0 := ⟨by omega, by omega⟩
    have i5 : I32 99 := ⟨by omega, by omega⟩
    by_cases c : isS (sV s) k ∧ 0 ≤ q ∧ q ≤ 99
    · obtain ⟨n, rfl⟩ := Int.eq_ofNat_of_zero_le c.1.1
      have hn : n < vS (sV s) := by have := c.1.2; omega
      have hS14 := B.vk.2.1
      have eQ : h.1 2 (54 + 5 * n + 3) = vW (sV s) n := by have := gW (f := h.1 2) (s := n) (by rw [B.s1]; omega); rw [B.2.2] at this; exact this
      have bQ := B.vk.2.2.2.1 n hn
      have hG := gW1 (f := h.1 2) (k := n) (x := q) B.2.1 (by rw [B.2.2]; exact hn) c.2
      rw [B.2.2] at hG
      have ea : aWant s (n : Int) q = if vW (sV s) n = q then (-2, s) else (vW (sV s) n, psh s (vW1 (sV s) n q)) := if_pos c
      refine Ev.aload_n dX8_want_5 (Eq.refl 6) rfl ?_
      refine Ev.iload_n dX8_want_6 (Eq.refl 7) rfl ?_
      refine Ev.cv1E dX8_want_7 (Eq.refl 10) cw_X8_190 (Nat.le_of_ble_eq_true rfl) (by decide) rfl rfl rfl (Nat.le_of_ble_eq_true rfl) (q_isStrand B hk) ?_
      refine Ev.if_eqB (tgt := 39) dX8_want_10 (Eq.refl 13) (by decide) (fun c10 => ?_) (fun c10 => ?_)
      · exact absurd c.1 c10
      · refine Ev.iload_n dX8_want_13 (Eq.refl 14) rfl ?_
        refine Ev.iconst dX8_want_14 (Eq.refl 15) ?_
        refine Ev.bipush dX8_want_15 (Eq.refl 17) (by decide) ?_
        refine Ev.cs3E dX8_want_17 (Eq.refl 20) cw_X8_73 (Nat.le_of_ble_eq_true rfl) (by decide) rfl (Nat.le_of_ble_eq_true rfl) (m_in (by assumption) (by assumption) (by assumption)) ?_
        refine Ev.if_eqB (tgt := 39) dX8_want_20 (Eq.refl 23) (by decide) (fun c20 => ?_) (fun c20 => ?_)
        · exact absurd c.2 c20
        · refine Ev.aload_n dX8_want_23 (Eq.refl 24) rfl ?_
          refine Ev.bipush dX8_want_24 (Eq.refl 26) (by decide) ?_
          refine Ev.iconst dX8_want_26 (Eq.refl 27) ?_
          refine Ev.iload_n dX8_want_27 (Eq.refl 28) rfl ?_
          refine Ev.imul dX8_want_28 (Eq.refl 29) ?_
          refine Ev.iadd dX8_want_29 (Eq.refl 30) ?_
          refine Ev.iconst dX8_want_30 (Eq.refl 31) ?_
          refine Ev.iadd dX8_want_31 (Eq.refl 32) ?_
          refine Ev.iload_n dX8_want_32 (Eq.refl 33) rfl ?_
          refine Ev.cv2I dX8_want_33 (Eq.refl 36) cw_X8_193 (Nat.le_of_ble_eq_true rfl) (by decide) rfl rfl rfl (Nat.le_of_ble_eq_true rfl) (m_becomes (p := 54 + 5 * n + 3) I (by push_cast; omega) (by omega) hq (by rw [eQ]; exact ⟨by omega, by omega⟩)) (fun x33 g33 hp33 => ?_)
          rw [eQ] at hp33
          refine Ev.goto' (pc' := 40) dX8_want_36 (by decide) ?_
          exact Ev.iret dX8_want_40 rfl ((by rw [ea]; rcases hp33 with ⟨z1, rfl, z3⟩ | ⟨z1, rfl, z3⟩ <;> first | (rw [if_pos z1]; exact ⟨_, rfl, rfl, z3⟩) | (rw [if_neg z1]; exact ⟨_, rfl, rfl, z3 _ hG⟩)))
    · have ea : aWant s k q = (-1, s) := if_neg c
      refine Ev.aload_n dX8_want_5 (Eq.refl 6) rfl ?_
      refine Ev.iload_n dX8_want_6 (Eq.refl 7) rfl ?_
      refine Ev.cv1E dX8_want_7 (Eq.refl 10) cw_X8_190 (Nat.le_of_ble_eq_true rfl) (by decide) rfl rfl rfl (Nat.le_of_ble_eq_true rfl) (q_isStrand B hk) ?_
      refine Ev.if_eqB (tgt := 39) dX8_want_10 (Eq.refl 13) (by decide) (fun c10 => ?_) (fun c10 => ?_)
      · refine Ev.iconst dX8_want_39 (Eq.refl 40) ?_
        exact Ev.iret dX8_want_40 rfl ((by rw [ea]; exact ⟨_, rfl, rfl, I⟩))
      · refine Ev.iload_n dX8_want_13 (Eq.refl 14) rfl ?_
        refine Ev.iconst dX8_want_14 (Eq.refl 15) ?_
        refine Ev.bipush dX8_want_15 (Eq.refl 17) (by decide) ?_
        refine Ev.cs3E dX8_want_17 (Eq.refl 20) cw_X8_73 (Nat.le_of_ble_eq_true rfl) (by decide) rfl (Nat.le_of_ble_eq_true rfl) (m_in (by assumption) (by assumption) (by assumption)) ?_
        refine Ev.if_eqB (tgt := 39) dX8_want_20 (Eq.refl 23) (by decide) (fun c20 => ?_) (fun c20 => ?_)
        · refine Ev.iconst dX8_want_39 (Eq.refl 40) ?_
          exact Ev.iret dX8_want_40 rfl ((by rw [ea]; exact ⟨_, rfl, rfl, I⟩))
        · exact absurd ⟨c10, c20⟩ c
  refine Ev.aload_n dX8_want_0 (Eq.refl 1) rfl ?_
  refine Ev.iconst dX8_want_1 (Eq.refl 2) ?_
  refine Ev.putI dX8_want_2 (Eq.refl 5) fp_X8_69 rfl rfl (Or.inl rfl) ?_
  exact TAIL _ (I.k (Mk.rf.w (by omega)))
theorem m_load {j l : Int} (I : MInv h s) (hj : I32 j) (hl : I32 l) : Ev mX8_load 2 0 (entL [.ref 0, iv j, iv l] 3) [] h (PM (aLoad s j l)) := by
  show Ev mX8_load 2 0 [some (.ref 0), some (iv j), some (iv l)] [] h _
  have TAIL : ∀ h, MInv h s → Ev mX8_load 2 5 [some (.ref 0), some (iv j), some (iv l)] [] h (PM (aLoad s j l)) := by
    intro h I
    have B := I.B
    have hR := B.1
    have i1 : I32 (-9) := ⟨by omega, by omega⟩
    have i5 : I32 9 := ⟨by omega, by omega⟩
    have hJ := B.vk.1
    by_cases c0 : isJ (sV s) j
    · obtain ⟨n, rfl⟩ := Int.eq_ofNat_of_zero_le c0.1
      have hn : n < vJ (sV s) := by have := c0.2; omega
      by_cases c : vF (sV s) n = true ∧ -9 ≤ l ∧ l ≤ 9
      · have eQ : h.1 2 (44 + n) = vLd (sV s) n := by have := gL (f := h.1 2) (j := n) (by rw [B.s0]; omega); rw [B.2.2] at this; exact this
        have bQ := B.vk.2.2.2.2.1 n hn
        have hG := gL1 (f := h.1 2) (k := n) (x := l) B.2.1 (by rw [B.2.2]; exact hn) c.2
        rw [B.2.2] at hG
        have ea : aLoad s (n : Int) l = if vLd (sV s) n = l then (-2, s) else (vLd (sV s) n + 9, psh s (vL1 (sV s) n l)) := if_pos ⟨c0, c⟩
        have q1 : ((44 : Int) + (n : Int)).toNat = 44 + n := by omega
        have hl2 := c.2
        refine Ev.aload_n dX8_load_5 (Eq.refl 6) rfl ?_
        refine Ev.iload_n dX8_load_6 (Eq.refl 7) rfl ?_
        refine Ev.cv1E dX8_load_7 (Eq.refl 10) cw_X8_196 (Nat.le_of_ble_eq_true rfl) (by decide) rfl rfl rfl (Nat.le_of_ble_eq_true rfl) (q_isJoint B hj) ?_
        refine Ev.if_eqB (tgt := 32) dX8_load_10 (Eq.refl 13) (by decide) (fun c10 => ?_) (fun c10 => ?_)
        · exact absurd c0 c10
        · refine Ev.aload_n dX8_load_13 (Eq.refl 14) rfl ?_
          refine Ev.iload_n dX8_load_14 (Eq.refl 15) rfl ?_
          refine Ev.cv1E dX8_load_15 (Eq.refl 18) cw_X8_134 (Nat.le_of_ble_eq_true rfl) (by decide) rfl rfl rfl (Nat.le_of_ble_eq_true rfl) (q_free B hn) ?_
          refine Ev.if_eqB (tgt := 32) dX8_load_18 (Eq.refl 21) (by decide) (fun c18 => ?_) (fun c18 => ?_)
          · exact absurd c.1 c18
          · refine Ev.iload_n dX8_load_21 (Eq.refl 22) rfl ?_
            refine Ev.bipush dX8_load_22 (Eq.refl 24) (by decide) ?_
            refine Ev.bipush dX8_load_24 (Eq.refl 26) (by decide) ?_
            refine Ev.cs3E dX8_load_26 (Eq.refl 29) cw_X8_73 (Nat.le_of_ble_eq_true rfl) (by decide) rfl (Nat.le_of_ble_eq_true rfl) (m_in (by assumption) (by assumption) (by assumption)) ?_
            refine Ev.if_neB (tgt := 34) dX8_load_29 (Eq.refl 32) (by decide) (fun c29 => ?_) (fun c29 => ?_)
            · refine Ev.aload_n dX8_load_34 (Eq.refl 35) rfl ?_
              refine Ev.getR dX8_load_35 (Eq.refl 38) fg_X8_13 rfl rfl (rX8_3 hR) ?_
              refine Ev.bipush dX8_load_38 (Eq.refl 40) (by decide) ?_
              refine Ev.iload_n dX8_load_40 (Eq.refl 41) rfl ?_
              refine Ev.iadd dX8_load_41 (Eq.refl 42) ?_
              refine Ev.iaload dX8_load_42 (Eq.refl 43) rfl rfl (by omega) (by decide) q1 ?_
              rw [eQ]
              refine Ev.iload_n dX8_load_43 (Eq.refl 44) rfl ?_
              refine Ev.icmp_ne (tgt := 50) dX8_load_44 (Eq.refl 47) (by decide) ⟨by omega, by omega⟩ ⟨by omega, by omega⟩ (fun c44 => ?_) (fun c44 => ?_)
              · refine Ev.aload_n dX8_load_50 (Eq.refl 51) rfl ?_
                refine Ev.bipush dX8_load_51 (Eq.refl 53) (by decide) ?_
                refine Ev.iload_n dX8_load_53 (Eq.refl 54) rfl ?_
                refine Ev.iadd dX8_load_54 (Eq.refl 55) ?_
                refine Ev.iload_n dX8_load_55 (Eq.refl 56) rfl ?_
                refine Ev.cv2I dX8_load_56 (Eq.refl 59) cw_X8_193 (Nat.le_of_ble_eq_true rfl) (by decide) rfl rfl rfl (Nat.le_of_ble_eq_true rfl) (m_becomes (p := 44 + n) I (by push_cast; omega) (by omega) hl (by rw [eQ]; exact ⟨by omega, by omega⟩)) (fun x56 g56 hp56 => ?_)
                rw [eQ] at hp56
                refine Ev.bipush dX8_load_59 (Eq.refl 61) (by decide) ?_
                refine Ev.iadd dX8_load_61 (Eq.refl 62) ?_
                exact Ev.iret dX8_load_62 rfl ((by rw [ea, if_neg c44]; rcases hp56 with ⟨z1, rfl, z3⟩ | ⟨z1, rfl, z3⟩ <;> first | exact absurd z1 c44 | exact ⟨_, rfl, rfl, z3 _ hG⟩))
              · refine Ev.bipush dX8_load_47 (Eq.refl 49) (by decide) ?_
                exact Ev.iret dX8_load_49 rfl ((by rw [ea, if_pos c44]; exact ⟨_, rfl, rfl, I⟩))
            · exact absurd c.2 c29
      · have ea : aLoad s (n : Int) l = (-1, s) := if_neg (fun z => c z.2)
        refine Ev.aload_n dX8_load_5 (Eq.refl 6) rfl ?_
        refine Ev.iload_n dX8_load_6 (Eq.refl 7) rfl ?_
        refine Ev.cv1E dX8_load_7 (Eq.refl 10) cw_X8_196 (Nat.le_of_ble_eq_true rfl) (by decide) rfl rfl rfl (Nat.le_of_ble_eq_true rfl) (q_isJoint B hj) ?_
        refine Ev.if_eqB (tgt := 32) dX8_load_10 (Eq.refl 13) (by decide) (fun c10 => ?_) (fun c10 => ?_)
        · exact absurd c0 c10
        · refine Ev.aload_n dX8_load_13 (Eq.refl 14) rfl ?_
          refine Ev.iload_n dX8_load_14 (Eq.refl 15) rfl ?_
          refine Ev.cv1E dX8_load_15 (Eq.refl 18) cw_X8_134 (Nat.le_of_ble_eq_true rfl) (by decide) rfl rfl rfl (Nat.le_of_ble_eq_true rfl) (q_free B hn) ?_
          refine Ev.if_eqB (tgt := 32) dX8_load_18 (Eq.refl 21) (by decide) (fun c18 => ?_) (fun c18 => ?_)
          · refine Ev.iconst dX8_load_32 (Eq.refl 33) ?_
            exact Ev.iret dX8_load_33 rfl ((by rw [ea]; exact ⟨_, rfl, rfl, I⟩))
          · refine Ev.iload_n dX8_load_21 (Eq.refl 22) rfl ?_
            refine Ev.bipush dX8_load_22 (Eq.refl 24) (by decide) ?_
            refine Ev.bipush dX8_load_24 (Eq.refl 26) (by decide) ?_
            refine Ev.cs3E dX8_load_26 (Eq.refl 29) cw_X8_73 (Nat.le_of_ble_eq_true rfl) (by decide) rfl (Nat.le_of_ble_eq_true rfl) (m_in (by assumption) (by assumption) (by assumption)) ?_
            refine Ev.if_neB (tgt := 34) dX8_load_29 (Eq.refl 32) (by decide) (fun c29 => ?_) (fun c29 => ?_)
            · exact absurd ⟨c18, c29⟩ c
            · refine Ev.iconst dX8_load_32 (Eq.refl 33) ?_
              exact Ev.iret dX8_load_33 rfl ((by rw [ea]; exact ⟨_, rfl, rfl, I⟩))
    · have ea : aLoad s j l = (-1, s) := if_neg (fun z => c0 z.1)
      refine Ev.aload_n dX8_load_5 (Eq.refl 6) rfl ?_
      refine Ev.iload_n dX8_load_6 (Eq.refl 7) rfl ?_
      refine Ev.cv1E dX8_load_7 (Eq.refl 10) cw_X8_196 (Nat.le_of_ble_eq_true rfl) (by decide) rfl rfl rfl (Nat.le_of_ble_eq_true rfl) (q_isJoint B hj) ?_
      refine Ev.if_eqB (tgt := 32) dX8_load_10 (Eq.refl 13) (by decide) (fun c10 => ?_) (fun c10 => ?_)
      · refine Ev.iconst dX8_load_32 (Eq.refl 33) ?_
        exact Ev.iret dX8_load_33 rfl ((by rw [ea]; exact ⟨_, rfl, rfl, I⟩))
      · exact absurd c10 c0
  refine Ev.aload_n dX8_load_0 (Eq.refl 1) rfl ?_
  refine Ev.iconst dX8_load_1 (Eq.refl 2) ?_
  refine Ev.putI dX8_load_2 (Eq.refl 5) fp_X8_69 rfl rfl (Or.inl rfl) ?_
  exact TAIL _ (I.k (Mk.rf.w (by omega)))
theorem m_move {j a x : Int} (I : MInv h s) (hj : I32 j) (ha : I32 a) (hx : I32 x) : Ev mX8_move 2 0 (entL [.ref 0, iv j, iv a, iv x] 4) [] h (PM (aMove s j a x)) := by
  show Ev mX8_move 2 0 [some (.ref 0), some (iv j), some (iv a), some (iv x)] [] h _
  have TAIL : ∀ h, MInv h s → Ev mX8_move 2 5 [some (.ref 0), some (iv j), some (iv a), some (iv x)] [] h (PM (aMove s j a x)) := by
    intro h I
    have B := I.B
    have i0 : I32 0 := ⟨by omega, by omega⟩
    have i2 : I32 2 := ⟨by omega, by omega⟩
    have i60 : I32 60 := ⟨by omega, by omega⟩
    have hJ := B.vk.1
    by_cases c0 : isJ (sV s) j
    · obtain ⟨n, rfl⟩ := Int.eq_ofNat_of_zero_le c0.1
      have hn : n < vJ (sV s) := by have := c0.2; omega
      by_cases c : ¬ vF (sV s) n = true ∧ (0 ≤ a ∧ a ≤ 2) ∧ 0 ≤ x ∧ x ≤ 60
      · obtain ⟨cf, ca, cx⟩ := c
        obtain ⟨b, rfl⟩ := Int.eq_ofNat_of_zero_le ca.1
        have cf2 : vF (sV s) n = false := by cases z : vF (sV s) n with | false => rfl | true => exact absurd z cf
        have eQ : h.1 2 (14 + 3 * n + b) = vP (sV s) n b := by
          have := gP (f := h.1 2) (j := n) (a := b) (by rw [B.s0]; omega) (fun z => by have := (gF (f := h.1 2) (j := n) (by rw [B.s0]; omega)).mp z; rw [B.2.2] at this; exact cf this) (by omega)
          rw [B.2.2] at this; exact this
        have bQ := B.vk.2.2.2.2.2.1 n b
        have hG := gP1 (f := h.1 2) (k := n) (b := b) (x := x) B.2.1 (by rw [B.2.2]; exact hn) (by rw [B.2.2]; exact cf2) (by omega) cx
        rw [B.2.2] at hG
        have ea : aMove s (n : Int) (b : Int) x = if vP (sV s) n b = x then (-2, s) else (vP (sV s) n b, psh s (vP1 (sV s) n b x)) := if_pos ⟨⟨c0, cf2⟩, ca, cx⟩
        refine Ev.aload_n dX8_move_5 (Eq.refl 6) rfl ?_
        refine Ev.iload_n dX8_move_6 (Eq.refl 7) rfl ?_
        refine Ev.cv1E dX8_move_7 (Eq.refl 10) cw_X8_196 (Nat.le_of_ble_eq_true rfl) (by decide) rfl rfl rfl (Nat.le_of_ble_eq_true rfl) (q_isJoint B hj) ?_
        refine Ev.if_eqB (tgt := 40) dX8_move_10 (Eq.refl 13) (by decide) (fun c10 => ?_) (fun c10 => ?_)
        · exact absurd c0 c10
        · refine Ev.aload_n dX8_move_13 (Eq.refl 14) rfl ?_
          refine Ev.iload_n dX8_move_14 (Eq.refl 15) rfl ?_
          refine Ev.cv1E dX8_move_15 (Eq.refl 18) cw_X8_134 (Nat.le_of_ble_eq_true rfl) (by decide) rfl rfl rfl (Nat.le_of_ble_eq_true rfl) (q_free B hn) ?_
          refine Ev.if_neB (tgt := 40) dX8_move_18 (Eq.refl 21) (by decide) (fun c18 => ?_) (fun c18 => ?_)
          · exact absurd c18 cf
          · refine Ev.iload_n dX8_move_21 (Eq.refl 22) rfl ?_
            refine Ev.iconst dX8_move_22 (Eq.refl 23) ?_
            refine Ev.iconst dX8_move_23 (Eq.refl 24) ?_
            refine Ev.cs3E dX8_move_24 (Eq.refl 27) cw_X8_73 (Nat.le_of_ble_eq_true rfl) (by decide) rfl (Nat.le_of_ble_eq_true rfl) (m_in (by assumption) (by assumption) (by assumption)) ?_
            refine Ev.if_eqB (tgt := 40) dX8_move_27 (Eq.refl 30) (by decide) (fun c27 => ?_) (fun c27 => ?_)
            · exact absurd ca c27
            · refine Ev.iload_n dX8_move_30 (Eq.refl 31) rfl ?_
              refine Ev.iconst dX8_move_31 (Eq.refl 32) ?_
              refine Ev.bipush dX8_move_32 (Eq.refl 34) (by decide) ?_
              refine Ev.cs3E dX8_move_34 (Eq.refl 37) cw_X8_73 (Nat.le_of_ble_eq_true rfl) (by decide) rfl (Nat.le_of_ble_eq_true rfl) (m_in (by assumption) (by assumption) (by assumption)) ?_
              refine Ev.if_neB (tgt := 42) dX8_move_37 (Eq.refl 40) (by decide) (fun c37 => ?_) (fun c37 => ?_)
              · refine Ev.aload_n dX8_move_42 (Eq.refl 43) rfl ?_
                refine Ev.bipush dX8_move_43 (Eq.refl 45) (by decide) ?_
                refine Ev.iconst dX8_move_45 (Eq.refl 46) ?_
                refine Ev.iload_n dX8_move_46 (Eq.refl 47) rfl ?_
                refine Ev.imul dX8_move_47 (Eq.refl 48) ?_
                refine Ev.iadd dX8_move_48 (Eq.refl 49) ?_
                refine Ev.iload_n dX8_move_49 (Eq.refl 50) rfl ?_
                refine Ev.iadd dX8_move_50 (Eq.refl 51) ?_
                refine Ev.iload_n dX8_move_51 (Eq.refl 52) rfl ?_
                refine Ev.cv2I dX8_move_52 (Eq.refl 55) cw_X8_193 (Nat.le_of_ble_eq_true rfl) (by decide) rfl rfl rfl (Nat.le_of_ble_eq_true rfl) (m_becomes (p := 14 + 3 * n + b) I (by push_cast; omega) (by omega) hx (by rw [eQ]; exact ⟨by omega, by omega⟩)) (fun x52 g52 hp52 => ?_)
                rw [eQ] at hp52
                exact Ev.iret dX8_move_55 rfl ((by rw [ea]; rcases hp52 with ⟨z1, rfl, z3⟩ | ⟨z1, rfl, z3⟩ <;> first | (rw [if_pos z1]; exact ⟨_, rfl, rfl, z3⟩) | (rw [if_neg z1]; exact ⟨_, rfl, rfl, z3 _ hG⟩)))
              · exact absurd cx c37
      · have ea : aMove s (n : Int) a x = (-1, s) := if_neg (fun z => c ⟨by rw [show vF (sV s) n = false from z.1.2]; decide, z.2⟩)
        refine Ev.aload_n dX8_move_5 (Eq.refl 6) rfl ?_
        refine Ev.iload_n dX8_move_6 (Eq.refl 7) rfl ?_
        refine Ev.cv1E dX8_move_7 (Eq.refl 10) cw_X8_196 (Nat.le_of_ble_eq_true rfl) (by decide) rfl rfl rfl (Nat.le_of_ble_eq_true rfl) (q_isJoint B hj) ?_
        refine Ev.if_eqB (tgt := 40) dX8_move_10 (Eq.refl 13) (by decide) (fun c10 => ?_) (fun c10 => ?_)
        · exact absurd c0 c10
        · refine Ev.aload_n dX8_move_13 (Eq.refl 14) rfl ?_
          refine Ev.iload_n dX8_move_14 (Eq.refl 15) rfl ?_
          refine Ev.cv1E dX8_move_15 (Eq.refl 18) cw_X8_134 (Nat.le_of_ble_eq_true rfl) (by decide) rfl rfl rfl (Nat.le_of_ble_eq_true rfl) (q_free B hn) ?_
          refine Ev.if_neB (tgt := 40) dX8_move_18 (Eq.refl 21) (by decide) (fun c18 => ?_) (fun c18 => ?_)
          · refine Ev.iconst dX8_move_40 (Eq.refl 41) ?_
            exact Ev.iret dX8_move_41 rfl ((by rw [ea]; exact ⟨_, rfl, rfl, I⟩))
          · refine Ev.iload_n dX8_move_21 (Eq.refl 22) rfl ?_
            refine Ev.iconst dX8_move_22 (Eq.refl 23) ?_
            refine Ev.iconst dX8_move_23 (Eq.refl 24) ?_
            refine Ev.cs3E dX8_move_24 (Eq.refl 27) cw_X8_73 (Nat.le_of_ble_eq_true rfl) (by decide) rfl (Nat.le_of_ble_eq_true rfl) (m_in (by assumption) (by assumption) (by assumption)) ?_
            refine Ev.if_eqB (tgt := 40) dX8_move_27 (Eq.refl 30) (by decide) (fun c27 => ?_) (fun c27 => ?_)
            · refine Ev.iconst dX8_move_40 (Eq.refl 41) ?_
              exact Ev.iret dX8_move_41 rfl ((by rw [ea]; exact ⟨_, rfl, rfl, I⟩))
            · refine Ev.iload_n dX8_move_30 (Eq.refl 31) rfl ?_
              refine Ev.iconst dX8_move_31 (Eq.refl 32) ?_
              refine Ev.bipush dX8_move_32 (Eq.refl 34) (by decide) ?_
              refine Ev.cs3E dX8_move_34 (Eq.refl 37) cw_X8_73 (Nat.le_of_ble_eq_true rfl) (by decide) rfl (Nat.le_of_ble_eq_true rfl) (m_in (by assumption) (by assumption) (by assumption)) ?_
              refine Ev.if_neB (tgt := 42) dX8_move_37 (Eq.refl 40) (by decide) (fun c37 => ?_) (fun c37 => ?_)
              · exact absurd ⟨c18, c27, c37⟩ c
              · refine Ev.iconst dX8_move_40 (Eq.refl 41) ?_
                exact Ev.iret dX8_move_41 rfl ((by rw [ea]; exact ⟨_, rfl, rfl, I⟩))
    · have ea : aMove s j a x = (-1, s) := if_neg (fun z => c0 z.1.1)
      refine Ev.aload_n dX8_move_5 (Eq.refl 6) rfl ?_
      refine Ev.iload_n dX8_move_6 (Eq.refl 7) rfl ?_
      refine Ev.cv1E dX8_move_7 (Eq.refl 10) cw_X8_196 (Nat.le_of_ble_eq_true rfl) (by decide) rfl rfl rfl (Nat.le_of_ble_eq_true rfl) (q_isJoint B hj) ?_
      refine Ev.if_eqB (tgt := 40) dX8_move_10 (Eq.refl 13) (by decide) (fun c10 => ?_) (fun c10 => ?_)
      · refine Ev.iconst dX8_move_40 (Eq.refl 41) ?_
        exact Ev.iret dX8_move_41 rfl ((by rw [ea]; exact ⟨_, rfl, rfl, I⟩))
      · exact absurd c10 c0
  refine Ev.aload_n dX8_move_0 (Eq.refl 1) rfl ?_
  refine Ev.iconst dX8_move_1 (Eq.refl 2) ?_
  refine Ev.putI dX8_move_2 (Eq.refl 5) fp_X8_69 rfl rfl (Or.inl rfl) ?_
  exact TAIL _ (I.k (Mk.rf.w (by omega)))
theorem m_downP {k i : Int} (I : MInv h s) (hk : I32 k) (hi : I32 i) : Ev mX8_down_ 3 0 (entL [.ref 0, iv k, iv i] 3) [] h (PM (aDown s k i)) := by
  show Ev mX8_down_ 3 0 [some (.ref 0), some (iv k), some (iv i)] [] h _
  have TAIL : ∀ h, MInv h s → Ev mX8_down_ 3 5 [some (.ref 0), some (iv k), some (iv i)] [] h (PM (aDown s k i)) := by
    intro h I
    have B := I.B
    have i1 : I32 0 := ⟨by omega, by omega⟩
    have i5 : I32 1 := ⟨by omega, by omega⟩
    by_cases c : isS (sV s) k ∧ 0 ≤ i ∧ i ≤ 1
    · obtain ⟨n, rfl⟩ := Int.eq_ofNat_of_zero_le c.1.1
      have hn : n < vS (sV s) := by have := c.1.2; omega
      have hS14 := B.vk.2.1
      have hD := (B.2.1.2.2.2.1 n (by rw [B.s1]; omega)).2.2
      have hq := gH (f := h.1 2) (s := n) (by rw [B.s1]; omega)
      rw [B.2.2] at hq
      have hG := gH1 (f := h.1 2) (k := n) (x := i) B.2.1 (by rw [B.2.2]; exact hn) c.2
      rw [B.2.2] at hG
      have c2 := c.2
      have ea : aDown s (n : Int) i = if vH (sV s) n = decide (i = 0) then (-2, s) else ((cnt (vH (vH1 (sV s) n (decide (i = 0)))) (vS (sV s)) : Int), psh s (vH1 (sV s) n (decide (i = 0)))) := if_pos c
      have eq1 : h.1 2 (54 + 5 * n + 4) = i ↔ vH (sV s) n = decide (i = 0) := by
        by_cases i0 : i = 0
        · rw [i0, hq]; simp
        · have : i = 1 := by omega
          subst this
          constructor
          · intro z
            cases y : vH (sV s) n with
            | false => rfl
            | true => have := hq.mpr y; omega
          · intro z
            have : ¬ h.1 2 (54 + 5 * n + 4) = 0 := fun y => by rw [hq.mp y] at z; exact absurd z (by decide)
            omega
      refine Ev.aload_n dX8_down__5 (Eq.refl 6) rfl ?_
      refine Ev.iload_n dX8_down__6 (Eq.refl 7) rfl ?_
      refine Ev.cv1E dX8_down__7 (Eq.refl 10) cw_X8_190 (Nat.le_of_ble_eq_true rfl) (by decide) rfl rfl rfl (Nat.le_of_ble_eq_true rfl) (q_isStrand B hk) ?_
      refine Ev.if_eqB (tgt := 22) dX8_down__10 (Eq.refl 13) (by decide) (fun c10 => ?_) (fun c10 => ?_)
      · exact absurd c.1 c10
      · refine Ev.iload_n dX8_down__13 (Eq.refl 14) rfl ?_
        refine Ev.iconst dX8_down__14 (Eq.refl 15) ?_
        refine Ev.iconst dX8_down__15 (Eq.refl 16) ?_
        refine Ev.cs3E dX8_down__16 (Eq.refl 19) cw_X8_73 (Nat.le_of_ble_eq_true rfl) (by decide) rfl (Nat.le_of_ble_eq_true rfl) (m_in (by assumption) (by assumption) (by assumption)) ?_
        refine Ev.if_neB (tgt := 24) dX8_down__19 (Eq.refl 22) (by decide) (fun c19 => ?_) (fun c19 => ?_)
        · refine Ev.aload_n dX8_down__24 (Eq.refl 25) rfl ?_
          refine Ev.bipush dX8_down__25 (Eq.refl 27) (by decide) ?_
          refine Ev.iconst dX8_down__27 (Eq.refl 28) ?_
          refine Ev.iload_n dX8_down__28 (Eq.refl 29) rfl ?_
          refine Ev.imul dX8_down__29 (Eq.refl 30) ?_
          refine Ev.iadd dX8_down__30 (Eq.refl 31) ?_
          refine Ev.iconst dX8_down__31 (Eq.refl 32) ?_
          refine Ev.iadd dX8_down__32 (Eq.refl 33) ?_
          refine Ev.iload_n dX8_down__33 (Eq.refl 34) rfl ?_
          refine Ev.cv2I dX8_down__34 (Eq.refl 37) cw_X8_193 (Nat.le_of_ble_eq_true rfl) (by decide) rfl rfl rfl (Nat.le_of_ble_eq_true rfl) (m_becomes (p := 54 + 5 * n + 4) I (by push_cast; omega) (by omega) hi (by rcases hD with z | z <;> rw [z] <;> exact ⟨by omega, by omega⟩)) (fun x34 g34 hp34 => ?_)
          have xr : x34 = -2 ∨ x34 = 0 ∨ x34 = 1 := (by rcases hp34 with ⟨_, z, _⟩ | ⟨_, z, _⟩ <;> omega)
          refine Ev.bipush dX8_down__37 (Eq.refl 39) (by decide) ?_
          refine Ev.icmp_ne (tgt := 47) dX8_down__39 (Eq.refl 42) (by decide) ⟨by omega, by omega⟩ ⟨by omega, by omega⟩ (fun c39 => ?_) (fun c39 => ?_)
          · have z3 : h.1 2 (54 + 5 * n + 4) ≠ i ∧ MInv g34 (psh s (vH1 (sV s) n (decide (i = 0)))) := (by rcases hp34 with ⟨z1, z2, z3⟩ | ⟨z1, z2, z3⟩ <;> first | exact ⟨z1, z3 _ hG⟩ | omega)
            refine Ev.aload_n dX8_down__47 (Eq.refl 48) rfl ?_
            refine Ev.cv0E dX8_down__48 (Eq.refl 51) cw_X8_199 (Nat.le_of_ble_eq_true rfl) (by decide) rfl rfl rfl (Nat.le_of_ble_eq_true rfl) (q_hanging z3.2.B) ?_
            exact Ev.iret dX8_down__51 rfl ((by rw [ea]; first | (rw [if_pos (eq1.mp z3.1)]; exact ⟨_, rfl, rfl, z3.2⟩) | (rw [if_neg (fun z => z3.1 (eq1.mpr z))]; exact ⟨_, rfl, rfl, z3.2⟩)))
          · have z3 : h.1 2 (54 + 5 * n + 4) = i ∧ MInv g34 s := (by rcases hp34 with ⟨z1, z2, z3⟩ | ⟨z1, z2, z3⟩ <;> first | exact ⟨z1, z3⟩ | omega)
            refine Ev.bipush dX8_down__42 (Eq.refl 44) (by decide) ?_
            refine Ev.goto' (pc' := 51) dX8_down__44 (by decide) ?_
            exact Ev.iret dX8_down__51 rfl ((by rw [ea]; first | (rw [if_pos (eq1.mp z3.1)]; exact ⟨_, rfl, rfl, z3.2⟩) | (rw [if_neg (fun z => z3.1 (eq1.mpr z))]; exact ⟨_, rfl, rfl, z3.2⟩)))
        · exact absurd c.2 c19
    · have ea : aDown s k i = (-1, s) := if_neg c
      refine Ev.aload_n dX8_down__5 (Eq.refl 6) rfl ?_
      refine Ev.iload_n dX8_down__6 (Eq.refl 7) rfl ?_
      refine Ev.cv1E dX8_down__7 (Eq.refl 10) cw_X8_190 (Nat.le_of_ble_eq_true rfl) (by decide) rfl rfl rfl (Nat.le_of_ble_eq_true rfl) (q_isStrand B hk) ?_
      refine Ev.if_eqB (tgt := 22) dX8_down__10 (Eq.refl 13) (by decide) (fun c10 => ?_) (fun c10 => ?_)
      · refine Ev.iconst dX8_down__22 (Eq.refl 23) ?_
        exact Ev.iret dX8_down__23 rfl ((by rw [ea]; exact ⟨_, rfl, rfl, I⟩))
      · refine Ev.iload_n dX8_down__13 (Eq.refl 14) rfl ?_
        refine Ev.iconst dX8_down__14 (Eq.refl 15) ?_
        refine Ev.iconst dX8_down__15 (Eq.refl 16) ?_
        refine Ev.cs3E dX8_down__16 (Eq.refl 19) cw_X8_73 (Nat.le_of_ble_eq_true rfl) (by decide) rfl (Nat.le_of_ble_eq_true rfl) (m_in (by assumption) (by assumption) (by assumption)) ?_
        refine Ev.if_neB (tgt := 24) dX8_down__19 (Eq.refl 22) (by decide) (fun c19 => ?_) (fun c19 => ?_)
        · exact absurd ⟨c10, c19⟩ c
        · refine Ev.iconst dX8_down__22 (Eq.refl 23) ?_
          exact Ev.iret dX8_down__23 rfl ((by rw [ea]; exact ⟨_, rfl, rfl, I⟩))
  refine Ev.aload_n dX8_down__0 (Eq.refl 1) rfl ?_
  refine Ev.iconst dX8_down__1 (Eq.refl 2) ?_
  refine Ev.putI dX8_down__2 (Eq.refl 5) fp_X8_69 rfl rfl (Or.inl rfl) ?_
  exact TAIL _ (I.k (Mk.rf.w (by omega)))
theorem m_undo (I : MInv h s) : Ev mX8_undo 0 0 (entL [.ref 0] 2) [] h (PM (aUndo s)) := by
  show Ev mX8_undo 0 0 [some (.ref 0), none] [] h _
  have TAIL : ∀ h, MInv h s → Ev mX8_undo 0 5 [some (.ref 0), none] [] h (PM (aUndo s)) := by
    intro h I
    obtain ⟨hR, ⟨ok, hV⟩, hT, hP⟩ := I
    obtain ⟨e6, k6, hp⟩ := hP
    by_cases k0 : sK s = 0
    · have ea : aUndo s = (-2, s) := if_pos k0
      refine Ev.aload_n dX8_undo_5 (Eq.refl 6) rfl ?_
      refine Ev.getI dX8_undo_6 (Eq.refl 9) fg_X8_128 rfl rfl ?_
      rw [e6]
      refine Ev.if_ne (tgt := 15) dX8_undo_9 (Eq.refl 12) (by decide) ⟨by omega, by omega⟩ (fun c9 => ?_) (fun c9 => ?_)
      · omega
      · refine Ev.bipush dX8_undo_12 (Eq.refl 14) (by decide) ?_
        exact Ev.iret dX8_undo_14 rfl ((by rw [ea]; exact ⟨_, rfl, rfl, hR, ⟨ok, hV⟩, hT, e6, k6, hp⟩))
    · have ea : aUndo s = ((sK s : Int) - 1, (sT s, sL s, sP s 0, sK s - 1, fun t => sP s (t + 1))) := if_neg k0
      have hp0 := hp 0 (by omega)
      have LOOP : ∀ (m i : Nat) (g : Hp), 124 - i = m → i ≤ 124 → g.2.2 = h.2.2 → (∀ a, a ≠ 0 → a ≠ 2 → ∀ j, g.1 a j = h.1 a j) → g.1 0 2 = h.1 0 2 → g.1 0 6 = ((sK s - 1 : Nat) : Int) → (∀ j, j < i → g.1 2 j = h.1 4 (124 * (sK s - 1) + j)) → Ev mX8_undo 0 27 [some (.ref 0), some (iv (i : Int))] [] g (PM (aUndo s)) := by
        intro m
        induction m using Nat.strongRecOn with
        | ind m ih =>
          intro i g hm hi r0 r1 r2 r6 hg
          have hR : MOk g.2.2 := by rw [r0]; exact hR
          by_cases l : i < 124
          · have q1 : ((124 : Int) * ((sK s - 1 : Nat) : Int) + (i : Int)).toNat = 124 * (sK s - 1) + i := by omega
            have e4 := r1 4 (by omega) (by omega) (124 * (sK s - 1) + i)
            refine Ev.iload_n dX8_undo_27 (Eq.refl 28) rfl ?_
            refine Ev.bipush dX8_undo_28 (Eq.refl 30) (by decide) ?_
            refine Ev.icmp_ge (tgt := 59) dX8_undo_30 (Eq.refl 33) (by decide) ⟨by omega, by omega⟩ ⟨by omega, by omega⟩ (fun c30 => ?_) (fun c30 => ?_)
            · omega
            · refine Ev.aload_n dX8_undo_33 (Eq.refl 34) rfl ?_
              refine Ev.getR dX8_undo_34 (Eq.refl 37) fg_X8_13 rfl rfl (rX8_3 hR) ?_
              refine Ev.iload_n dX8_undo_37 (Eq.refl 38) rfl ?_
              refine Ev.aload_n dX8_undo_38 (Eq.refl 39) rfl ?_
              refine Ev.getR dX8_undo_39 (Eq.refl 42) fg_X8_20 rfl rfl (rX8_5 hR) ?_
              refine Ev.bipush dX8_undo_42 (Eq.refl 44) (by decide) ?_
              refine Ev.aload_n dX8_undo_44 (Eq.refl 45) rfl ?_
              refine Ev.getI dX8_undo_45 (Eq.refl 48) fg_X8_128 rfl rfl ?_
              rw [r6]
              refine Ev.imul dX8_undo_48 (Eq.refl 49) ?_
              refine Ev.iload_n dX8_undo_49 (Eq.refl 50) rfl ?_
              refine Ev.iadd dX8_undo_50 (Eq.refl 51) ?_
              refine Ev.iaload dX8_undo_51 (Eq.refl 52) rfl rfl (by omega) (by decide) q1 ?_
              rw [e4]
              refine Ev.iastore dX8_undo_52 (Eq.refl 53) rfl rfl (by omega) (by decide) (by first | with_reducible exact Int.toNat_natCast _ | exact Eq.refl _) ?_
              refine Ev.ii1 dX8_undo_53 (Eq.refl 56) (by decide) rfl ?_
              refine Ev.goto' (pc' := 27) dX8_undo_56 (by decide) ?_
              exact ih _ (by omega) (i + 1) _ rfl (by omega) r0 (fun a h1 h2 j => by rw [hI_ni h2]; exact r1 a h1 h2 j) (by rw [hI_ni (by omega)]; exact r2) (by rw [hI_ni (by omega)]; exact r6) (fun j hj => by rw [hI_rd]; exact (if e : j = i then by rw [e, if_pos ⟨rfl, rfl⟩] else by rw [if_neg (fun z => e z.2)]; exact hg j (by omega)))
          · have e : i = 124 := by omega
            subst e
            have q := gExt (f := g.1 2) (g := fun i => h.1 4 (124 * (sK s - 1 - 0) + i)) (fun j hj => hg j hj) hp0.1
            refine Ev.iload_n dX8_undo_27 (Eq.refl 28) rfl ?_
            refine Ev.bipush dX8_undo_28 (Eq.refl 30) (by decide) ?_
            refine Ev.icmp_ge (tgt := 59) dX8_undo_30 (Eq.refl 33) (by decide) ⟨by omega, by omega⟩ ⟨by omega, by omega⟩ (fun c30 => ?_) (fun c30 => ?_)
            · refine Ev.aload_n dX8_undo_59 (Eq.refl 60) rfl ?_
              refine Ev.getI dX8_undo_60 (Eq.refl 63) fg_X8_128 rfl rfl ?_
              rw [r6]
              exact Ev.iret dX8_undo_63 rfl ((by rw [ea]; exact ⟨_, rfl, by show ((sK s - 1 : Nat) : Int) = (sK s : Int) - 1; omega, hR, ⟨q.2, q.1.trans hp0.2⟩, ⟨r2.trans hT.1, hT.2.1, fun k hk => by rw [r1 1 (by omega) (by omega)]; exact hT.2.2 k hk⟩, r6, (show sK s - 1 ≤ 6 by omega), fun t ht => by have ht : t < sK s - 1 := ht; have z := hp (t + 1) (by omega); have er : (fun i => g.1 4 (124 * (sK s - 1 - 1 - t) + i)) = fun i => h.1 4 (124 * (sK s - 1 - (t + 1)) + i) := (funext fun i => by rw [r1 4 (by omega) (by omega), show sK s - 1 - 1 - t = sK s - 1 - (t + 1) by omega]); show GOk (fun i => g.1 4 (124 * (sK s - 1 - 1 - t) + i)) ∧ gV (fun i => g.1 4 (124 * (sK s - 1 - 1 - t) + i)) = _; rw [er]; exact z⟩))
            · omega
      refine Ev.aload_n dX8_undo_5 (Eq.refl 6) rfl ?_
      refine Ev.getI dX8_undo_6 (Eq.refl 9) fg_X8_128 rfl rfl ?_
      rw [e6]
      refine Ev.if_ne (tgt := 15) dX8_undo_9 (Eq.refl 12) (by decide) ⟨by omega, by omega⟩ (fun c9 => ?_) (fun c9 => ?_)
      · refine Ev.aload_n dX8_undo_15 (Eq.refl 16) rfl ?_
        refine Ev.dupR dX8_undo_16 (Eq.refl 17) ?_
        refine Ev.getI dX8_undo_17 (Eq.refl 20) fg_X8_128 rfl rfl ?_
        rw [e6]
        refine Ev.iconst dX8_undo_20 (Eq.refl 21) ?_
        refine Ev.isub dX8_undo_21 (Eq.refl 22) ?_
        refine Ev.putI dX8_undo_22 (Eq.refl 25) fp_X8_128 rfl rfl (Or.inl rfl) ?_
        refine Ev.iconst dX8_undo_25 (Eq.refl 26) ?_
        refine Ev.is1 dX8_undo_26 (Eq.refl 27) (by decide) rfl ?_
        exact LOOP _ 0 _ rfl (by omega) rfl (fun a h1 _ j => hI_ni h1) (hI_nk (by omega)) (by rw [hI_eq]; omega) (fun j hj => by omega)
      · omega
  refine Ev.aload_n dX8_undo_0 (Eq.refl 1) rfl ?_
  refine Ev.iconst dX8_undo_1 (Eq.refl 2) ?_
  refine Ev.putI dX8_undo_2 (Eq.refl 5) fp_X8_69 rfl rfl (Or.inl rfl) ?_
  exact TAIL _ (I.k (Mk.rf.w (by omega)))
end MCH
