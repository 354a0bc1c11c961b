/-! Shape: what follows from places -/
def atH (v : Nv) (j k : Nat) : Prop := vH v k = true ∧ (vA v k = j ∨ vB v k = j)
def oth (v : Nv) (k j : Nat) : Nat := if vA v k = j then vB v k else vA v k
theorem arnd {h : Hp} {n j k : Nat} {x : Int} (ok : NOk h n) (hx : isSAt h n (j : Int) (h.1 n 2).toNat x) (hk : k < vS (cV h n)) : tb (((x.toNat &&& (h.1 n 3).toNat : Nat) : Int)) k ↔ atH (cV h n) j k := by
  have hk2 : (k : Int) < h.1 n 2 := by have := cV_S ok; omega
  have eA := cV_A ok hk2
  have eB := cV_B ok hk2
  rw [tb_and, hx.2.2 k, cV_H ok]
  unfold atH
  constructor
  · rintro ⟨⟨_, q⟩, r⟩; exact ⟨r, by omega⟩
  · rintro ⟨r, q⟩; exact ⟨⟨by omega, by omega⟩, r⟩
theorem oth_e {h : Hp} {n j k : Nat} (ok : NOk h n) (hk : k < vS (cV h n)) : (if h.1 (n + 3) k = (j : Int) then h.1 (n + 4) k else h.1 (n + 3) k) = (oth (cV h n) k j : Int) := by
  have hk2 : (k : Int) < h.1 n 2 := by have := cV_S ok; omega
  have eA := cV_A ok hk2
  have eB := cV_B ok hk2
  rw [eA, eB]
  unfold oth
  by_cases q : vA (cV h n) k = j
  · rw [if_pos q, if_pos (by omega)]
  · rw [if_neg q, if_neg (by omega)]
theorem oth_lt {v : Nv} {k j : Nat} (hv : VOk v) (hk : k < vS v) : oth v k j < vJ v := by
  have := hv.2.2.2.1 k hk
  unfold oth; split <;> omega
def btw (v : Nv) (j a : Nat) : Prop := (∃ k, k < vS v ∧ atH v j k ∧ zA v (oth v k j) a ≤ zA v j a) ∧ ∃ k, k < vS v ∧ atH v j k ∧ zA v j a ≤ zA v (oth v k j) a
theorem ex_s {P : Nat → Prop} {k : Nat} {x : Int} (hx : x = bi (∃ i, i < k ∧ P i)) (hn : ¬ P k) : x = bi (∃ i, i < k + 1 ∧ P i) := by
  rw [hx]
  refine bi_c ⟨fun ⟨i, h1, h2⟩ => ⟨i, by omega, h2⟩, fun ⟨i, h1, h2⟩ => ⟨i, ?_, h2⟩⟩
  have : i ≠ k := fun e => hn (e ▸ h2)
  omega
theorem ex_t {P : Nat → Prop} {k : Nat} (hn : P k) : (1 : Int) = bi (∃ i, i < k + 1 ∧ P i) := (bi_t ⟨k, by omega, hn⟩).symm
theorem ex_u {P : Nat → Prop} {k : Nat} {x : Int} (hx : x = bi (∃ i, i < k ∧ P i)) (hn : x ≠ 0) : (1 : Int) = bi (∃ i, i < k + 1 ∧ P i) := by
  by_cases q : ∃ i, i < k ∧ P i
  · obtain ⟨i, h1, h2⟩ := q; exact (bi_t ⟨i, by omega, h2⟩).symm
  · rw [bi_f q] at hx; exact absurd hx hn
theorem bi_1 {c : Prop} (h : bi c = 1) : c := Classical.byContradiction fun q => by rw [bi_f q] at h; exact absurd h (by decide)
theorem bi_0 {c : Prop} (h : bi c = 0) : ¬ c := fun q => by rw [bi_t q] at h; exact absurd h (by decide)
theorem zA_64 {v : Nv} (hv : VOk v) (ha : aH v (hgV v)) {j a : Nat} (hj : j < vJ v) (h3 : a < 3) : I64 (zA v j a) := by
  have := zA_b hv ha hj h3
  have := dB_b hv ha
  have := dB_pos hv ha (Nat.le_refl (vN v))
  exact ⟨by omega, by omega⟩
theorem c_isBetween {h : Hp} {n s j a : Nat} (hR : ROk h.2.2) (hn : isNet n) (hs : isShp s) (ok : NOk h n) (so : ShOk h s (cV h n)) (hj : j < vJ (cV h n)) (h3 : a < 3) : Ev mX4_isBetweenOthers 2 0 (entL [.ref s, .ref n, iv (j : Int), iv (a : Int)] 12) [] h (PE (bi (btw (cV h n) j a)) h) := by
  show Ev mX4_isBetweenOthers 2 0 [some (.ref s), some (.ref n), some (iv (j : Int)), some (iv (a : Int)), none, none, none, none, none, none, none, none] [] h _
  have hv : VOk (cV h n) := ok.2.2.2.2.2
  have ha := so.1
  have hJ := hv.1
  have hS14 := hv.2.1
  have eSt := cV_S ok
  have hS := ok.2.2.1
  have hH := ok.2.2.2.1.1
  have hH2 := ok.f3
  have he := ok.ends
  have sa := so.2.1
  have ij : I32 (j : Int) := ⟨by omega, by omega⟩
  have zj := zA_64 hv ha hj h3
  have LOOP : ∀ x, isSAt h n (j : Int) (h.1 n 2).toNat x → ∀ (m k : Nat) (p q : Int) (w : Option Value), vS (cV h n) - k = m → k ≤ vS (cV h n) → p = bi (∃ i, i < k ∧ (atH (cV h n) j i ∧ zA (cV h n) (oth (cV h n) i j) a ≤ zA (cV h n) j a)) → q = bi (∃ i, i < k ∧ (atH (cV h n) j i ∧ zA (cV h n) j a ≤ zA (cV h n) (oth (cV h n) i j) a)) → Ev mX4_isBetweenOthers 2 30 [some (.ref s), some (.ref n), some (iv (j : Int)), some (iv (a : Int)), some (jv (zA (cV h n) j a)), none, some (iv ((x.toNat &&& (h.1 n 3).toNat : Nat) : Int)), some (iv p), some (iv q), some (iv (k : Int)), w, none] [] h (PE (bi (btw (cV h n) j a)) h) := by
    intro x hx m
    have hx1 := sAt_lt ok hx
    have hx2 : x.toNat &&& (h.1 n 3).toNat ≤ x.toNat := Nat.and_le_left
    induction m using Nat.strongRecOn with
    | ind m ih =>
      intro k p q w hm hk hp hq
      have p01 := bi01 (∃ i, i < k ∧ (atH (cV h n) j i ∧ zA (cV h n) (oth (cV h n) i j) a ≤ zA (cV h n) j a))
      have q01 := bi01 (∃ i, i < k ∧ (atH (cV h n) j i ∧ zA (cV h n) j a ≤ zA (cV h n) (oth (cV h n) i j) a))
      rw [← hp] at p01
      rw [← hq] at q01
      by_cases hk2 : k < vS (cV h n)
      · have iA := (he k (by omega)).1
        have eo := oth_e (j := j) ok hk2
        have ol := oth_lt (j := j) hv hk2
        have zo := zA_64 hv ha ol h3
        have at_ := arnd ok hx hk2
        refine Ev.iload dX4_isBetweenOthers_30 (Eq.refl 32) rfl ?_
        refine Ev.aload_n dX4_isBetweenOthers_32 (Eq.refl 33) rfl ?_
        refine Ev.getI dX4_isBetweenOthers_33 (Eq.refl 36) fg_X4_66 (lyN0 (by assumption)) rfl ?_
        rw [eSt]
        refine Ev.icmp_ge (tgt := 111) dX4_isBetweenOthers_36 (Eq.refl 39) (by decide) ⟨by omega, by omega⟩ ⟨by omega, by omega⟩ (fun c36 => ?_) (fun c36 => ?_)
        · omega
        · refine Ev.iload dX4_isBetweenOthers_39 (Eq.refl 41) rfl ?_
          refine Ev.iload dX4_isBetweenOthers_41 (Eq.refl 43) rfl ?_
          refine Ev.ishr dX4_isBetweenOthers_43 (Eq.refl 44) (b_shr (Int.natCast_nonneg _) (by omega) (by omega) (by omega)) ?_
          refine Ev.iconst dX4_isBetweenOthers_44 (Eq.refl 45) ?_
          refine Ev.iand dX4_isBetweenOthers_45 (Eq.refl 46) (b_and (by first | exact Int.natCast_nonneg _ | exact shl0 | omega) (by first | exact Int.natCast_nonneg _ | exact shl0 | omega)) ?_
          rw [bitE]
          have hbb := bi01 (tb (((x.toNat &&& (h.1 n 3).toNat : Nat) : Int)) ((k : Int)).toNat)
          rw [Int.toNat_natCast] at hbb ⊢
          refine Ev.iconst dX4_isBetweenOthers_46 (Eq.refl 47) ?_
          refine Ev.icmp_ne (tgt := 105) dX4_isBetweenOthers_47 (Eq.refl 50) (by decide) ⟨by omega, by omega⟩ ⟨by omega, by omega⟩ (fun c47 => ?_) (fun c47 => ?_)
          · have hnt : ¬ atH (cV h n) j k := fun z => c47 (bi_t (at_.mpr z))
            refine Ev.ii9 dX4_isBetweenOthers_105 (Eq.refl 108) (by decide) rfl ?_
            refine Ev.goto' (pc' := 30) dX4_isBetweenOthers_108 (by decide) ?_
            exact ih _ (by omega) (k + 1) _ _ _ rfl (by omega) (by first | exact ex_s hp (fun z => hnt z.1) | exact ex_t ⟨hat, by omega⟩ | exact ex_u hp c67 | exact (by omega : p = 0) ▸ ex_s hp (fun z => by have := z.2; omega)) (by first | exact ex_s hq (fun z => hnt z.1) | exact ex_t ⟨hat, by omega⟩ | exact ex_u hq c87 | exact (by omega : q = 0) ▸ ex_s hq (fun z => by have := z.2; omega))
          · have hat : atH (cV h n) j k := at_.mp (bi_1 c47)
            refine Ev.aload_n dX4_isBetweenOthers_50 (Eq.refl 51) rfl ?_
            refine Ev.aload_n dX4_isBetweenOthers_51 (Eq.refl 52) rfl ?_
            refine Ev.aload_n dX4_isBetweenOthers_52 (Eq.refl 53) rfl ?_
            refine Ev.iload dX4_isBetweenOthers_53 (Eq.refl 55) rfl ?_
            refine Ev.iload_n dX4_isBetweenOthers_55 (Eq.refl 56) rfl ?_
            refine Ev.cv2E dX4_isBetweenOthers_56 (Eq.refl 59) cw_X4_82 (Nat.le_of_ble_eq_true rfl) (by decide) (lyN0 (by assumption)) rfl rfl (Nat.le_of_ble_eq_true rfl) (c_otherEnd hR hn (by omega) ij (by rw [Int.toNat_natCast]; exact iA)) ?_
            rw [Int.toNat_natCast, eo]
            refine Ev.iload_n dX4_isBetweenOthers_59 (Eq.refl 60) rfl ?_
            refine Ev.cv3F dX4_isBetweenOthers_60 (Eq.refl 63) cw_X4_98 (Nat.le_of_ble_eq_true rfl) (by decide) (lyS0 (by assumption)) rfl rfl (Nat.le_of_ble_eq_true rfl) (c_above hR hn hs ok sa ol h3) ?_
            refine Ev.ls10 dX4_isBetweenOthers_63 (Eq.refl 65) (by decide) rfl ?_
            refine Ev.iload dX4_isBetweenOthers_65 (Eq.refl 67) rfl ?_
            refine Ev.if_ne (tgt := 78) dX4_isBetweenOthers_67 (Eq.refl 70) (by decide) ⟨by omega, by omega⟩ (fun c67 => ?_) (fun c67 => ?_)
            · refine Ev.iconst dX4_isBetweenOthers_78 (Eq.refl 79) ?_
              refine Ev.goto' (pc' := 83) dX4_isBetweenOthers_79 (by decide) ?_
              refine Ev.is7 dX4_isBetweenOthers_83 (Eq.refl 85) (by decide) rfl ?_
              refine Ev.iload dX4_isBetweenOthers_85 (Eq.refl 87) rfl ?_
              refine Ev.if_ne (tgt := 98) dX4_isBetweenOthers_87 (Eq.refl 90) (by decide) ⟨by omega, by omega⟩ (fun c87 => ?_) (fun c87 => ?_)
              · refine Ev.iconst dX4_isBetweenOthers_98 (Eq.refl 99) ?_
                refine Ev.goto' (pc' := 103) dX4_isBetweenOthers_99 (by decide) ?_
                refine Ev.is8 dX4_isBetweenOthers_103 (Eq.refl 105) (by decide) rfl ?_
                refine Ev.ii9 dX4_isBetweenOthers_105 (Eq.refl 108) (by decide) rfl ?_
                refine Ev.goto' (pc' := 30) dX4_isBetweenOthers_108 (by decide) ?_
                exact ih _ (by omega) (k + 1) _ _ _ rfl (by omega) (by first | exact ex_s hp (fun z => hnt z.1) | exact ex_t ⟨hat, by omega⟩ | exact ex_u hp c67 | exact (by omega : p = 0) ▸ ex_s hp (fun z => by have := z.2; omega)) (by first | exact ex_s hq (fun z => hnt z.1) | exact ex_t ⟨hat, by omega⟩ | exact ex_u hq c87 | exact (by omega : q = 0) ▸ ex_s hq (fun z => by have := z.2; omega))
              · refine Ev.lload dX4_isBetweenOthers_90 (Eq.refl 92) rfl ?_
                refine Ev.lload dX4_isBetweenOthers_92 (Eq.refl 94) rfl ?_
                refine Ev.ifl_lt (tgt := 102) dX4_isBetweenOthers_94 (Eq.refl 95) dX4_isBetweenOthers_95 (Eq.refl 98) (by decide) zo zj (fun c94 => ?_) (fun c94 => ?_)
                · refine Ev.iconst dX4_isBetweenOthers_102 (Eq.refl 103) ?_
                  refine Ev.is8 dX4_isBetweenOthers_103 (Eq.refl 105) (by decide) rfl ?_
                  refine Ev.ii9 dX4_isBetweenOthers_105 (Eq.refl 108) (by decide) rfl ?_
                  refine Ev.goto' (pc' := 30) dX4_isBetweenOthers_108 (by decide) ?_
                  exact ih _ (by omega) (k + 1) _ _ _ rfl (by omega) (by first | exact ex_s hp (fun z => hnt z.1) | exact ex_t ⟨hat, by omega⟩ | exact ex_u hp c67 | exact (by omega : p = 0) ▸ ex_s hp (fun z => by have := z.2; omega)) (by first | exact ex_s hq (fun z => hnt z.1) | exact ex_t ⟨hat, by omega⟩ | exact ex_u hq c87 | exact (by omega : q = 0) ▸ ex_s hq (fun z => by have := z.2; omega))
                · refine Ev.iconst dX4_isBetweenOthers_98 (Eq.refl 99) ?_
                  refine Ev.goto' (pc' := 103) dX4_isBetweenOthers_99 (by decide) ?_
                  refine Ev.is8 dX4_isBetweenOthers_103 (Eq.refl 105) (by decide) rfl ?_
                  refine Ev.ii9 dX4_isBetweenOthers_105 (Eq.refl 108) (by decide) rfl ?_
                  refine Ev.goto' (pc' := 30) dX4_isBetweenOthers_108 (by decide) ?_
                  exact ih _ (by omega) (k + 1) _ _ _ rfl (by omega) (by first | exact ex_s hp (fun z => hnt z.1) | exact ex_t ⟨hat, by omega⟩ | exact ex_u hp c67 | exact (by omega : p = 0) ▸ ex_s hp (fun z => by have := z.2; omega)) (by first | exact ex_s hq (fun z => hnt z.1) | exact ex_t ⟨hat, by omega⟩ | exact ex_u hq c87 | exact (by omega : q = 0) ▸ ex_s hq (fun z => by have := z.2; omega))
            · refine Ev.lload dX4_isBetweenOthers_70 (Eq.refl 72) rfl ?_
              refine Ev.lload dX4_isBetweenOthers_72 (Eq.refl 74) rfl ?_
              refine Ev.ifl_gt (tgt := 82) dX4_isBetweenOthers_74 (Eq.refl 75) dX4_isBetweenOthers_75 (Eq.refl 78) (by decide) zo zj (fun c74 => ?_) (fun c74 => ?_)
              · refine Ev.iconst dX4_isBetweenOthers_82 (Eq.refl 83) ?_
                refine Ev.is7 dX4_isBetweenOthers_83 (Eq.refl 85) (by decide) rfl ?_
                refine Ev.iload dX4_isBetweenOthers_85 (Eq.refl 87) rfl ?_
                refine Ev.if_ne (tgt := 98) dX4_isBetweenOthers_87 (Eq.refl 90) (by decide) ⟨by omega, by omega⟩ (fun c87 => ?_) (fun c87 => ?_)
                · refine Ev.iconst dX4_isBetweenOthers_98 (Eq.refl 99) ?_
                  refine Ev.goto' (pc' := 103) dX4_isBetweenOthers_99 (by decide) ?_
                  refine Ev.is8 dX4_isBetweenOthers_103 (Eq.refl 105) (by decide) rfl ?_
                  refine Ev.ii9 dX4_isBetweenOthers_105 (Eq.refl 108) (by decide) rfl ?_
                  refine Ev.goto' (pc' := 30) dX4_isBetweenOthers_108 (by decide) ?_
                  exact ih _ (by omega) (k + 1) _ _ _ rfl (by omega) (by first | exact ex_s hp (fun z => hnt z.1) | exact ex_t ⟨hat, by omega⟩ | exact ex_u hp c67 | exact (by omega : p = 0) ▸ ex_s hp (fun z => by have := z.2; omega)) (by first | exact ex_s hq (fun z => hnt z.1) | exact ex_t ⟨hat, by omega⟩ | exact ex_u hq c87 | exact (by omega : q = 0) ▸ ex_s hq (fun z => by have := z.2; omega))
                · refine Ev.lload dX4_isBetweenOthers_90 (Eq.refl 92) rfl ?_
                  refine Ev.lload dX4_isBetweenOthers_92 (Eq.refl 94) rfl ?_
                  refine Ev.ifl_lt (tgt := 102) dX4_isBetweenOthers_94 (Eq.refl 95) dX4_isBetweenOthers_95 (Eq.refl 98) (by decide) zo zj (fun c94 => ?_) (fun c94 => ?_)
                  · refine Ev.iconst dX4_isBetweenOthers_102 (Eq.refl 103) ?_
                    refine Ev.is8 dX4_isBetweenOthers_103 (Eq.refl 105) (by decide) rfl ?_
                    refine Ev.ii9 dX4_isBetweenOthers_105 (Eq.refl 108) (by decide) rfl ?_
                    refine Ev.goto' (pc' := 30) dX4_isBetweenOthers_108 (by decide) ?_
                    exact ih _ (by omega) (k + 1) _ _ _ rfl (by omega) (by first | exact ex_s hp (fun z => hnt z.1) | exact ex_t ⟨hat, by omega⟩ | exact ex_u hp c67 | exact (by omega : p = 0) ▸ ex_s hp (fun z => by have := z.2; omega)) (by first | exact ex_s hq (fun z => hnt z.1) | exact ex_t ⟨hat, by omega⟩ | exact ex_u hq c87 | exact (by omega : q = 0) ▸ ex_s hq (fun z => by have := z.2; omega))
                  · refine Ev.iconst dX4_isBetweenOthers_98 (Eq.refl 99) ?_
                    refine Ev.goto' (pc' := 103) dX4_isBetweenOthers_99 (by decide) ?_
                    refine Ev.is8 dX4_isBetweenOthers_103 (Eq.refl 105) (by decide) rfl ?_
                    refine Ev.ii9 dX4_isBetweenOthers_105 (Eq.refl 108) (by decide) rfl ?_
                    refine Ev.goto' (pc' := 30) dX4_isBetweenOthers_108 (by decide) ?_
                    exact ih _ (by omega) (k + 1) _ _ _ rfl (by omega) (by first | exact ex_s hp (fun z => hnt z.1) | exact ex_t ⟨hat, by omega⟩ | exact ex_u hp c67 | exact (by omega : p = 0) ▸ ex_s hp (fun z => by have := z.2; omega)) (by first | exact ex_s hq (fun z => hnt z.1) | exact ex_t ⟨hat, by omega⟩ | exact ex_u hq c87 | exact (by omega : q = 0) ▸ ex_s hq (fun z => by have := z.2; omega))
              · refine Ev.iconst dX4_isBetweenOthers_78 (Eq.refl 79) ?_
                refine Ev.goto' (pc' := 83) dX4_isBetweenOthers_79 (by decide) ?_
                refine Ev.is7 dX4_isBetweenOthers_83 (Eq.refl 85) (by decide) rfl ?_
                refine Ev.iload dX4_isBetweenOthers_85 (Eq.refl 87) rfl ?_
                refine Ev.if_ne (tgt := 98) dX4_isBetweenOthers_87 (Eq.refl 90) (by decide) ⟨by omega, by omega⟩ (fun c87 => ?_) (fun c87 => ?_)
                · refine Ev.iconst dX4_isBetweenOthers_98 (Eq.refl 99) ?_
                  refine Ev.goto' (pc' := 103) dX4_isBetweenOthers_99 (by decide) ?_
                  refine Ev.is8 dX4_isBetweenOthers_103 (Eq.refl 105) (by decide) rfl ?_
                  refine Ev.ii9 dX4_isBetweenOthers_105 (Eq.refl 108) (by decide) rfl ?_
                  refine Ev.goto' (pc' := 30) dX4_isBetweenOthers_108 (by decide) ?_
                  exact ih _ (by omega) (k + 1) _ _ _ rfl (by omega) (by first | exact ex_s hp (fun z => hnt z.1) | exact ex_t ⟨hat, by omega⟩ | exact ex_u hp c67 | exact (by omega : p = 0) ▸ ex_s hp (fun z => by have := z.2; omega)) (by first | exact ex_s hq (fun z => hnt z.1) | exact ex_t ⟨hat, by omega⟩ | exact ex_u hq c87 | exact (by omega : q = 0) ▸ ex_s hq (fun z => by have := z.2; omega))
                · refine Ev.lload dX4_isBetweenOthers_90 (Eq.refl 92) rfl ?_
                  refine Ev.lload dX4_isBetweenOthers_92 (Eq.refl 94) rfl ?_
                  refine Ev.ifl_lt (tgt := 102) dX4_isBetweenOthers_94 (Eq.refl 95) dX4_isBetweenOthers_95 (Eq.refl 98) (by decide) zo zj (fun c94 => ?_) (fun c94 => ?_)
                  · refine Ev.iconst dX4_isBetweenOthers_102 (Eq.refl 103) ?_
                    refine Ev.is8 dX4_isBetweenOthers_103 (Eq.refl 105) (by decide) rfl ?_
                    refine Ev.ii9 dX4_isBetweenOthers_105 (Eq.refl 108) (by decide) rfl ?_
                    refine Ev.goto' (pc' := 30) dX4_isBetweenOthers_108 (by decide) ?_
                    exact ih _ (by omega) (k + 1) _ _ _ rfl (by omega) (by first | exact ex_s hp (fun z => hnt z.1) | exact ex_t ⟨hat, by omega⟩ | exact ex_u hp c67 | exact (by omega : p = 0) ▸ ex_s hp (fun z => by have := z.2; omega)) (by first | exact ex_s hq (fun z => hnt z.1) | exact ex_t ⟨hat, by omega⟩ | exact ex_u hq c87 | exact (by omega : q = 0) ▸ ex_s hq (fun z => by have := z.2; omega))
                  · refine Ev.iconst dX4_isBetweenOthers_98 (Eq.refl 99) ?_
                    refine Ev.goto' (pc' := 103) dX4_isBetweenOthers_99 (by decide) ?_
                    refine Ev.is8 dX4_isBetweenOthers_103 (Eq.refl 105) (by decide) rfl ?_
                    refine Ev.ii9 dX4_isBetweenOthers_105 (Eq.refl 108) (by decide) rfl ?_
                    refine Ev.goto' (pc' := 30) dX4_isBetweenOthers_108 (by decide) ?_
                    exact ih _ (by omega) (k + 1) _ _ _ rfl (by omega) (by first | exact ex_s hp (fun z => hnt z.1) | exact ex_t ⟨hat, by omega⟩ | exact ex_u hp c67 | exact (by omega : p = 0) ▸ ex_s hp (fun z => by have := z.2; omega)) (by first | exact ex_s hq (fun z => hnt z.1) | exact ex_t ⟨hat, by omega⟩ | exact ex_u hq c87 | exact (by omega : q = 0) ▸ ex_s hq (fun z => by have := z.2; omega))
      · have e : k = vS (cV h n) := by omega
        subst e
        refine Ev.iload dX4_isBetweenOthers_30 (Eq.refl 32) rfl ?_
        refine Ev.aload_n dX4_isBetweenOthers_32 (Eq.refl 33) rfl ?_
        refine Ev.getI dX4_isBetweenOthers_33 (Eq.refl 36) fg_X4_66 (lyN0 (by assumption)) rfl ?_
        rw [eSt]
        refine Ev.icmp_ge (tgt := 111) dX4_isBetweenOthers_36 (Eq.refl 39) (by decide) ⟨by omega, by omega⟩ ⟨by omega, by omega⟩ (fun c36 => ?_) (fun c36 => ?_)
        · refine Ev.iload dX4_isBetweenOthers_111 (Eq.refl 113) rfl ?_
          refine Ev.if_eq (tgt := 125) dX4_isBetweenOthers_113 (Eq.refl 116) (by decide) ⟨by omega, by omega⟩ (fun c113 => ?_) (fun c113 => ?_)
          · refine Ev.iconst dX4_isBetweenOthers_125 (Eq.refl 126) ?_
            exact Ev.zret dX4_isBetweenOthers_126 rfl (by first | exact bi01 _ | exact Or.inl rfl | exact Or.inr rfl | omega) (PE.of (by first | exact (bi_f (fun z => by rw [bi_t z.1] at hp; omega)).symm | exact (bi_f (fun z => by rw [bi_t z.2] at hq; omega)).symm | exact (bi_t ⟨bi_1 (hp.symm.trans (by omega)), bi_1 (hq.symm.trans (by omega))⟩).symm))
          · refine Ev.iload dX4_isBetweenOthers_116 (Eq.refl 118) rfl ?_
            refine Ev.if_eq (tgt := 125) dX4_isBetweenOthers_118 (Eq.refl 121) (by decide) ⟨by omega, by omega⟩ (fun c118 => ?_) (fun c118 => ?_)
            · refine Ev.iconst dX4_isBetweenOthers_125 (Eq.refl 126) ?_
              exact Ev.zret dX4_isBetweenOthers_126 rfl (by first | exact bi01 _ | exact Or.inl rfl | exact Or.inr rfl | omega) (PE.of (by first | exact (bi_f (fun z => by rw [bi_t z.1] at hp; omega)).symm | exact (bi_f (fun z => by rw [bi_t z.2] at hq; omega)).symm | exact (bi_t ⟨bi_1 (hp.symm.trans (by omega)), bi_1 (hq.symm.trans (by omega))⟩).symm))
            · refine Ev.iconst dX4_isBetweenOthers_121 (Eq.refl 122) ?_
              refine Ev.goto' (pc' := 126) dX4_isBetweenOthers_122 (by decide) ?_
              exact Ev.zret dX4_isBetweenOthers_126 rfl (by first | exact bi01 _ | exact Or.inl rfl | exact Or.inr rfl | omega) (PE.of (by first | exact (bi_f (fun z => by rw [bi_t z.1] at hp; omega)).symm | exact (bi_f (fun z => by rw [bi_t z.2] at hq; omega)).symm | exact (bi_t ⟨bi_1 (hp.symm.trans (by omega)), bi_1 (hq.symm.trans (by omega))⟩).symm))
        · omega
  refine Ev.aload_n dX4_isBetweenOthers_0 (Eq.refl 1) rfl ?_
  refine Ev.aload_n dX4_isBetweenOthers_1 (Eq.refl 2) rfl ?_
  refine Ev.iload_n dX4_isBetweenOthers_2 (Eq.refl 3) rfl ?_
  refine Ev.iload_n dX4_isBetweenOthers_3 (Eq.refl 4) rfl ?_
  refine Ev.cv3F dX4_isBetweenOthers_4 (Eq.refl 7) cw_X4_98 (Nat.le_of_ble_eq_true rfl) (by decide) (lyS0 (by assumption)) rfl rfl (Nat.le_of_ble_eq_true rfl) (c_above hR hn hs ok sa hj h3) ?_
  refine Ev.ls4 dX4_isBetweenOthers_7 (Eq.refl 9) (by decide) rfl ?_
  refine Ev.aload_n dX4_isBetweenOthers_9 (Eq.refl 10) rfl ?_
  refine Ev.iload_n dX4_isBetweenOthers_10 (Eq.refl 11) rfl ?_
  refine Ev.cv1I dX4_isBetweenOthers_11 (Eq.refl 14) cw_X4_120 (Nat.le_of_ble_eq_true rfl) (by decide) (lyN0 (by assumption)) rfl rfl (Nat.le_of_ble_eq_true rfl) (c_strandsAt hR (by assumption) (by omega) (by assumption) (by assumption)) (fun x11 g11 hp11 => ?_)
  obtain ⟨rfl, hx⟩ := hp11
  have hx0 := hx.1
  refine Ev.aload_n dX4_isBetweenOthers_14 (Eq.refl 15) rfl ?_
  refine Ev.getI dX4_isBetweenOthers_15 (Eq.refl 18) fg_X4_124 (lyN0 (by assumption)) rfl ?_
  refine Ev.iand dX4_isBetweenOthers_18 (Eq.refl 19) (b_and (by first | exact Int.natCast_nonneg _ | exact shl0 | omega) (by first | exact Int.natCast_nonneg _ | exact shl0 | omega)) ?_
  refine Ev.is6 dX4_isBetweenOthers_19 (Eq.refl 21) (by decide) rfl ?_
  refine Ev.iconst dX4_isBetweenOthers_21 (Eq.refl 22) ?_
  refine Ev.is7 dX4_isBetweenOthers_22 (Eq.refl 24) (by decide) rfl ?_
  refine Ev.iconst dX4_isBetweenOthers_24 (Eq.refl 25) ?_
  refine Ev.is8 dX4_isBetweenOthers_25 (Eq.refl 27) (by decide) rfl ?_
  refine Ev.iconst dX4_isBetweenOthers_27 (Eq.refl 28) ?_
  refine Ev.is9 dX4_isBetweenOthers_28 (Eq.refl 30) (by decide) rfl ?_
  exact LOOP _ hx _ 0 _ _ _ rfl (by omega) (bi_f (fun ⟨i, hi, _⟩ => by omega)).symm (bi_f (fun ⟨i, hi, _⟩ => by omega)).symm
theorem c_isWithinO {h : Hp} {n s j : Nat} (hR : ROk h.2.2) (hn : isNet n) (hs : isShp s) (ok : NOk h n) (so : ShOk h s (cV h n)) (hj : j < vJ (cV h n)) : Ev mX4_isWithinOthers 3 0 (entL [.ref s, .ref n, iv (j : Int)] 4) [] h (PE (bi (vF (cV h n) j = true → ∀ a, a < 3 → btw (cV h n) j a)) h) := by
  show Ev mX4_isWithinOthers 3 0 [some (.ref s), some (.ref n), some (iv (j : Int)), none] [] h _
  have hJ := ok.2.2.2.2.2.1
  have hF1 := ok.2.1.1
  have hF2 := ok.f1
  have hfr := cV_F (j := j) ok
  have LOOP : vF (cV h n) j = true → ∀ (m a : Nat), 3 - a = m → a ≤ 3 → (∀ i, i < a → btw (cV h n) j i) → Ev mX4_isWithinOthers 3 12 [some (.ref s), some (.ref n), some (iv (j : Int)), some (iv (a : Int))] [] h (PE (bi (vF (cV h n) j = true → ∀ a, a < 3 → btw (cV h n) j a)) h) := by
    intro hf m
    induction m using Nat.strongRecOn with
    | ind m ih =>
      intro a hm ha hx
      refine Ev.iload_n dX4_isWithinOthers_12 (Eq.refl 13) rfl ?_
      refine Ev.iconst dX4_isWithinOthers_13 (Eq.refl 14) ?_
      refine Ev.icmp_ge (tgt := 35) dX4_isWithinOthers_14 (Eq.refl 17) (by decide) ⟨by omega, by omega⟩ ⟨by omega, by omega⟩ (fun c14 => ?_) (fun c14 => ?_)
      · have e : a = 3 := by omega
        subst e
        refine Ev.iconst dX4_isWithinOthers_35 (Eq.refl 36) ?_
        exact Ev.zret dX4_isWithinOthers_36 rfl (by first | exact bi01 _ | exact Or.inl rfl | exact Or.inr rfl | omega) (PE.of (bi_t (fun _ => hx)).symm)
      · have h3 : a < 3 := by omega
        refine Ev.aload_n dX4_isWithinOthers_17 (Eq.refl 18) rfl ?_
        refine Ev.aload_n dX4_isWithinOthers_18 (Eq.refl 19) rfl ?_
        refine Ev.iload_n dX4_isWithinOthers_19 (Eq.refl 20) rfl ?_
        refine Ev.iload_n dX4_isWithinOthers_20 (Eq.refl 21) rfl ?_
        refine Ev.cv3E dX4_isWithinOthers_21 (Eq.refl 24) cw_X4_116 (Nat.le_of_ble_eq_true rfl) (by decide) (lyS0 (by assumption)) rfl rfl (Nat.le_of_ble_eq_true rfl) (c_isBetween hR (by assumption) (by assumption) (by assumption) (by assumption) (by assumption) (by omega)) ?_
        refine Ev.if_neB (tgt := 29) dX4_isWithinOthers_24 (Eq.refl 27) (by decide) (fun c24 => ?_) (fun c24 => ?_)
        · have c21 := c24
          refine Ev.ii3 dX4_isWithinOthers_29 (Eq.refl 32) (by decide) rfl ?_
          refine Ev.goto' (pc' := 12) dX4_isWithinOthers_32 (by decide) ?_
          exact ih _ (by omega) (a + 1) rfl (by omega) (fun i hi => if e : i = a then by rw [e]; exact c21 else hx i (by omega))
        · refine Ev.iconst dX4_isWithinOthers_27 (Eq.refl 28) ?_
          exact Ev.zret dX4_isWithinOthers_28 rfl (by first | exact bi01 _ | exact Or.inl rfl | exact Or.inr rfl | omega) (PE.of (bi_f (fun z => c24 (z hf a h3))).symm)
  refine Ev.aload_n dX4_isWithinOthers_0 (Eq.refl 1) rfl ?_
  refine Ev.iload_n dX4_isWithinOthers_1 (Eq.refl 2) rfl ?_
  refine Ev.cv1E dX4_isWithinOthers_2 (Eq.refl 5) cw_X4_59 (Nat.le_of_ble_eq_true rfl) (by decide) (lyN0 (by assumption)) rfl rfl (Nat.le_of_ble_eq_true rfl) (c_isFree (by assumption) (by omega) (by omega)) ?_
  rw [Int.toNat_natCast]
  refine Ev.if_neB (tgt := 10) dX4_isWithinOthers_5 (Eq.refl 8) (by decide) (fun c5 => ?_) (fun c5 => ?_)
  · refine Ev.iconst dX4_isWithinOthers_10 (Eq.refl 11) ?_
    refine Ev.is3 dX4_isWithinOthers_11 (Eq.refl 12) (by decide) rfl ?_
    exact LOOP (hfr.mp c5) _ 0 rfl (by omega) (fun i hi => by omega)
  · refine Ev.iconst dX4_isWithinOthers_8 (Eq.refl 9) ?_
    exact Ev.zret dX4_isWithinOthers_9 rfl (by first | exact bi01 _ | exact Or.inl rfl | exact Or.inr rfl | omega) (PE.of (bi_t (fun z => absurd (hfr.mpr z) c5)).symm)
noncomputable def brn (v : Nv) (j a k : Nat) : Int := cif (atH v j k) (vQ v k * (hU v (oth v k j) a - hU v j a)) 0
theorem c_borne {h : Hp} {n s j a : Nat} (hR : ROk h.2.2) (hn : isNet n) (hs : isShp s) (ok : NOk h n) (so : ShOk h s (cV h n)) (hj : j < vJ (cV h n)) (h3 : a < 3) : Ev mX4_borne 1 0 (entL [.ref s, .ref n, iv (j : Int), iv (a : Int)] 7) [] h (PE (sm (brn (cV h n) j a) (vS (cV h n))) h) := by
  show Ev mX4_borne 1 0 [some (.ref s), some (.ref n), some (iv (j : Int)), some (iv (a : Int)), none, none, none] [] h _
  have hv : VOk (cV h n) := ok.2.2.2.2.2
  have hJ := hv.1
  have hS14 := hv.2.1
  have eSt := cV_S ok
  have hS := ok.2.2.1
  have hH := ok.2.2.2.1.1
  have hH2 := ok.f3
  have he := ok.ends
  have hu := so.2.2.1
  have ij : I32 (j : Int) := ⟨by omega, by omega⟩
  have LOOP : ∀ x, isSAt h n (j : Int) (h.1 n 2).toNat x → ∀ (m k : Nat), vS (cV h n) - k = m → k ≤ vS (cV h n) → Ev mX4_borne 1 18 [some (.ref s), some (.ref n), some (iv (j : Int)), some (iv (a : Int)), some (iv ((x.toNat &&& (h.1 n 3).toNat : Nat) : Int)), some (iv (sm (brn (cV h n) j a) k)), some (iv (k : Int))] [] h (PE (sm (brn (cV h n) j a) (vS (cV h n))) h) := by
    intro x hx m
    have hx1 := sAt_lt ok hx
    have hx2 : x.toNat &&& (h.1 n 3).toNat ≤ x.toNat := Nat.and_le_left
    induction m using Nat.strongRecOn with
    | ind m ih =>
      intro k hm hk
      by_cases hk2 : k < vS (cV h n)
      · have iA := (he k (by omega)).1
        have eo := oth_e (j := j) ok hk2
        have ol := oth_lt (j := j) hv hk2
        have at_ := arnd ok hx hk2
        have eQ := cV_Q (h := h) (n := n) (s := k) (by omega)
        refine Ev.iload dX4_borne_18 (Eq.refl 20) rfl ?_
        refine Ev.aload_n dX4_borne_20 (Eq.refl 21) rfl ?_
        refine Ev.getI dX4_borne_21 (Eq.refl 24) fg_X4_66 (lyN0 (by assumption)) rfl ?_
        rw [eSt]
        refine Ev.icmp_ge (tgt := 70) dX4_borne_24 (Eq.refl 27) (by decide) ⟨by omega, by omega⟩ ⟨by omega, by omega⟩ (fun c24 => ?_) (fun c24 => ?_)
        · omega
        · refine Ev.iload dX4_borne_27 (Eq.refl 29) rfl ?_
          refine Ev.iload dX4_borne_29 (Eq.refl 31) rfl ?_
          refine Ev.ishr dX4_borne_31 (Eq.refl 32) (b_shr (Int.natCast_nonneg _) (by omega) (by omega) (by omega)) ?_
          refine Ev.iconst dX4_borne_32 (Eq.refl 33) ?_
          refine Ev.iand dX4_borne_33 (Eq.refl 34) (b_and (by first | exact Int.natCast_nonneg _ | exact shl0 | omega) (by first | exact Int.natCast_nonneg _ | exact shl0 | omega)) ?_
          rw [bitE]
          have hbb := bi01 (tb (((x.toNat &&& (h.1 n 3).toNat : Nat) : Int)) ((k : Int)).toNat)
          rw [Int.toNat_natCast] at hbb ⊢
          refine Ev.iconst dX4_borne_34 (Eq.refl 35) ?_
          refine Ev.icmp_ne (tgt := 64) dX4_borne_35 (Eq.refl 38) (by decide) ⟨by omega, by omega⟩ ⟨by omega, by omega⟩ (fun c35 => ?_) (fun c35 => ?_)
          · have hnt : ¬ atH (cV h n) j k := fun z => c35 (bi_t (at_.mpr z))
            have e0 : brn (cV h n) j a k = 0 := cif_f hnt
            refine Ev.ii6 dX4_borne_64 (Eq.refl 67) (by decide) rfl ?_
            refine Ev.goto' (pc' := 18) dX4_borne_67 (by decide) ?_
            first | exact ih _ (by omega) (k + 1) rfl (by omega) | (have := ih _ (by omega) (k + 1) rfl (by omega); rw [show sm (brn (cV h n) j a) (k + 1) = sm (brn (cV h n) j a) k from by show _ + brn (cV h n) j a k = _; rw [e0, Int.add_zero]] at this; exact this)
          · have hat : atH (cV h n) j k := at_.mp (bi_1 c35)
            have e0 : brn (cV h n) j a k = _ := cif_t hat
            refine Ev.iload dX4_borne_38 (Eq.refl 40) rfl ?_
            refine Ev.aload_n dX4_borne_40 (Eq.refl 41) rfl ?_
            refine Ev.getR dX4_borne_41 (Eq.refl 44) fg_X4_86 (lyN0 (by assumption)) rfl (rN10 hR (by assumption)) ?_
            refine Ev.iload dX4_borne_44 (Eq.refl 46) rfl ?_
            refine Ev.iaload dX4_borne_46 (Eq.refl 47) (lyN5 (by assumption)) rfl (by omega) (by decide) (by first | with_reducible exact Int.toNat_natCast _ | exact Eq.refl _) ?_
            rw [eQ]
            refine Ev.aload_n dX4_borne_47 (Eq.refl 48) rfl ?_
            refine Ev.iload_n dX4_borne_48 (Eq.refl 49) rfl ?_
            refine Ev.aload_n dX4_borne_49 (Eq.refl 50) rfl ?_
            refine Ev.iload dX4_borne_50 (Eq.refl 52) rfl ?_
            refine Ev.iload_n dX4_borne_52 (Eq.refl 53) rfl ?_
            refine Ev.cv2E dX4_borne_53 (Eq.refl 56) cw_X4_82 (Nat.le_of_ble_eq_true rfl) (by decide) (lyN0 (by assumption)) rfl rfl (Nat.le_of_ble_eq_true rfl) (c_otherEnd hR hn (by omega) ij (by rw [Int.toNat_natCast]; exact iA)) ?_
            rw [Int.toNat_natCast, eo]
            refine Ev.iload_n dX4_borne_56 (Eq.refl 57) rfl ?_
            refine Ev.cv3E dX4_borne_57 (Eq.refl 60) cw_X4_108 (Nat.le_of_ble_eq_true rfl) (by decide) (lyS0 (by assumption)) rfl rfl (Nat.le_of_ble_eq_true rfl) (c_wayFrom hR (by assumption) (by omega) (by omega) (by omega)) ?_
            rw [hu _ a ol h3, hu _ a hj h3]
            refine Ev.imul dX4_borne_60 (Eq.refl 61) ?_
            refine Ev.iadd dX4_borne_61 (Eq.refl 62) ?_
            rw [← e0]
            refine Ev.is5 dX4_borne_62 (Eq.refl 64) (by decide) rfl ?_
            refine Ev.ii6 dX4_borne_64 (Eq.refl 67) (by decide) rfl ?_
            refine Ev.goto' (pc' := 18) dX4_borne_67 (by decide) ?_
            first | exact ih _ (by omega) (k + 1) rfl (by omega) | (have := ih _ (by omega) (k + 1) rfl (by omega); rw [show sm (brn (cV h n) j a) (k + 1) = sm (brn (cV h n) j a) k from by show _ + brn (cV h n) j a k = _; rw [e0, Int.add_zero]] at this; exact this)
      · have e : k = vS (cV h n) := by omega
        subst e
        refine Ev.iload dX4_borne_18 (Eq.refl 20) rfl ?_
        refine Ev.aload_n dX4_borne_20 (Eq.refl 21) rfl ?_
        refine Ev.getI dX4_borne_21 (Eq.refl 24) fg_X4_66 (lyN0 (by assumption)) rfl ?_
        rw [eSt]
        refine Ev.icmp_ge (tgt := 70) dX4_borne_24 (Eq.refl 27) (by decide) ⟨by omega, by omega⟩ ⟨by omega, by omega⟩ (fun c24 => ?_) (fun c24 => ?_)
        · refine Ev.iload dX4_borne_70 (Eq.refl 72) rfl ?_
          exact Ev.iret dX4_borne_72 rfl (PE.mk)
        · omega
  refine Ev.aload_n dX4_borne_0 (Eq.refl 1) rfl ?_
  refine Ev.iload_n dX4_borne_1 (Eq.refl 2) rfl ?_
  refine Ev.cv1I dX4_borne_2 (Eq.refl 5) cw_X4_120 (Nat.le_of_ble_eq_true rfl) (by decide) (lyN0 (by assumption)) rfl rfl (Nat.le_of_ble_eq_true rfl) (c_strandsAt hR (by assumption) (by omega) (by assumption) (by assumption)) (fun x2 g2 hp2 => ?_)
  obtain ⟨rfl, hx⟩ := hp2
  have hx0 := hx.1
  refine Ev.aload_n dX4_borne_5 (Eq.refl 6) rfl ?_
  refine Ev.getI dX4_borne_6 (Eq.refl 9) fg_X4_124 (lyN0 (by assumption)) rfl ?_
  refine Ev.iand dX4_borne_9 (Eq.refl 10) (b_and (by first | exact Int.natCast_nonneg _ | exact shl0 | omega) (by first | exact Int.natCast_nonneg _ | exact shl0 | omega)) ?_
  refine Ev.is4 dX4_borne_10 (Eq.refl 12) (by decide) rfl ?_
  refine Ev.iconst dX4_borne_12 (Eq.refl 13) ?_
  refine Ev.is5 dX4_borne_13 (Eq.refl 15) (by decide) rfl ?_
  refine Ev.iconst dX4_borne_15 (Eq.refl 16) ?_
  refine Ev.is6 dX4_borne_16 (Eq.refl 18) (by decide) rfl ?_
  exact LOOP _ hx _ 0 rfl (by omega)
theorem c_pull {h : Hp} {n s k : Nat} (hR : ROk h.2.2) (hn : isNet n) (hs : isShp s) (ok : NOk h n) (so : ShOk h s (cV h n)) (hk : k < vS (cV h n)) : Ev mX4_pull 0 0 (entL [.ref s, .ref n, iv (k : Int)] 3) [] h (PE (vQ (cV h n) k * len (cV h n) k) h) := by
  show Ev mX4_pull 0 0 [some (.ref s), some (.ref n), some (iv (k : Int))] [] h _
  have hS14 := ok.2.2.2.2.2.2.1
  have eSt := cV_S ok
  have eQ := cV_Q (h := h) (n := n) (s := k) (by omega)
  refine Ev.aload_n dX4_pull_0 (Eq.refl 1) rfl ?_
  refine Ev.getR dX4_pull_1 (Eq.refl 4) fg_X4_86 (lyN0 (by assumption)) rfl (rN10 hR (by assumption)) ?_
  refine Ev.iload_n dX4_pull_4 (Eq.refl 5) rfl ?_
  refine Ev.iaload dX4_pull_5 (Eq.refl 6) (lyN5 (by assumption)) rfl (by omega) (by decide) (by first | with_reducible exact Int.toNat_natCast _ | exact Eq.refl _) ?_
  rw [eQ]
  refine Ev.aload_n dX4_pull_6 (Eq.refl 7) rfl ?_
  refine Ev.getR dX4_pull_7 (Eq.refl 10) fg_X4_23 (lyS0 (by assumption)) rfl (rS3 hR (by assumption)) ?_
  refine Ev.iload_n dX4_pull_10 (Eq.refl 11) rfl ?_
  refine Ev.iaload dX4_pull_11 (Eq.refl 12) (lyS4 (by assumption)) rfl (by omega) (by decide) (by first | with_reducible exact Int.toNat_natCast _ | exact Eq.refl _) ?_
  rw [so.2.2.2 k hk]
  refine Ev.imul dX4_pull_12 (Eq.refl 13) ?_
  exact Ev.iret dX4_pull_13 rfl (PE.mk)
noncomputable def offV (v : Nv) (k : Nat) : Int := if 0 ≤ len v k - 100 * vW v k then len v k - 100 * vW v k else -(len v k - 100 * vW v k)
theorem offV_b {v : Nv} (hv : VOk v) (ha : aH v (hgV v)) {k : Nat} (hk : k < vS v) : 0 ≤ offV v k ∧ offV v k < 90000 := by
  have := len_b hv ha hk
  have := hv.2.2.2.1 k hk
  unfold offV; split <;> omega
theorem c_off {h : Hp} {n s k : Nat} (hR : ROk h.2.2) (hn : isNet n) (hs : isShp s) (ok : NOk h n) (so : ShOk h s (cV h n)) (hk : k < vS (cV h n)) : Ev mX4_off 1 0 (entL [.ref s, .ref n, iv (k : Int)] 3) [] h (PE (offV (cV h n) k) h) := by
  show Ev mX4_off 1 0 [some (.ref s), some (.ref n), some (iv (k : Int))] [] h _
  have hS14 := ok.2.2.2.2.2.2.1
  have eSt := cV_S ok
  have eW := cV_W (h := h) (n := n) (s := k) (by omega)
  have hl := len_b ok.2.2.2.2.2 so.1 hk
  have hw := ok.2.2.2.2.2.2.2.2.1 k hk
  refine Ev.aload_n dX4_off_0 (Eq.refl 1) rfl ?_
  refine Ev.getR dX4_off_1 (Eq.refl 4) fg_X4_23 (lyS0 (by assumption)) rfl (rS3 hR (by assumption)) ?_
  refine Ev.iload_n dX4_off_4 (Eq.refl 5) rfl ?_
  refine Ev.iaload dX4_off_5 (Eq.refl 6) (lyS4 (by assumption)) rfl (by omega) (by decide) (by first | with_reducible exact Int.toNat_natCast _ | exact Eq.refl _) ?_
  rw [so.2.2.2 k hk]
  refine Ev.bipush dX4_off_6 (Eq.refl 8) (by decide) ?_
  refine Ev.aload_n dX4_off_8 (Eq.refl 9) rfl ?_
  refine Ev.getR dX4_off_9 (Eq.refl 12) fg_X4_127 (lyN0 (by assumption)) rfl (rN11 hR (by assumption)) ?_
  refine Ev.iload_n dX4_off_12 (Eq.refl 13) rfl ?_
  refine Ev.iaload dX4_off_13 (Eq.refl 14) (lyN6 (by assumption)) rfl (by omega) (by decide) (by first | with_reducible exact Int.toNat_natCast _ | exact Eq.refl _) ?_
  rw [eW]
  refine Ev.imul dX4_off_14 (Eq.refl 15) ?_
  refine Ev.isub dX4_off_15 (Eq.refl 16) ?_
  refine Ev.mabs dX4_off_16 (Eq.refl 19) wm_X4_130 (by decide) (Nat.le_of_ble_eq_true rfl) ⟨by omega, by omega⟩ ?_
  exact Ev.iret dX4_off_19 rfl (PE.mk)
def isSl (v : Nv) (m : Nat) (x : Int) : Prop := 0 ≤ x ∧ x < 2 ^ m ∧ ∀ i, tb x i ↔ i < m ∧ vH v i = true ∧ len v i < 100 * vW v i
theorem isB_s {P : Nat → Prop} {k : Nat} {x : Int} (hx : 0 ≤ x ∧ x < 2 ^ k ∧ ∀ i, tb x i ↔ i < k ∧ P i) (hq : P k) : 0 ≤ ((x.toNat ||| (1 * (2 : Int) ^ k).toNat : Nat) : Int) ∧ ((x.toNat ||| (1 * (2 : Int) ^ k).toNat : Nat) : Int) < 2 ^ (k + 1) ∧ ∀ i, tb ((x.toNat ||| (1 * (2 : Int) ^ k).toNat : Nat) : Int) i ↔ i < k + 1 ∧ P i := by
  refine ⟨Int.natCast_nonneg _, orLt hx.1 hx.2.1, fun s => ?_⟩
  rw [tb_or, tb_one, hx.2.2 s]
  constructor
  · rintro (⟨h1, h2⟩ | rfl)
    · exact ⟨by omega, h2⟩
    · exact ⟨by omega, hq⟩
  · rintro ⟨h1, h2⟩
    by_cases e : s = k
    · exact Or.inr e
    · exact Or.inl ⟨by omega, h2⟩
theorem isB_n {P : Nat → Prop} {k : Nat} {x : Int} (hx : 0 ≤ x ∧ x < 2 ^ k ∧ ∀ i, tb x i ↔ i < k ∧ P i) (hq : ¬ P k) : 0 ≤ x ∧ x < 2 ^ (k + 1) ∧ ∀ i, tb x i ↔ i < k + 1 ∧ P i := by
  refine ⟨hx.1, Int.lt_of_lt_of_le hx.2.1 (p2le (by omega)), fun s => ?_⟩
  rw [hx.2.2 s]
  constructor
  · rintro ⟨a, b⟩; exact ⟨by omega, b⟩
  · rintro ⟨a, b⟩
    have : s ≠ k := fun e => hq (e ▸ b)
    exact ⟨by omega, b⟩
theorem c_slack {h : Hp} {n s : Nat} (hR : ROk h.2.2) (hn : isNet n) (hs : isShp s) (ok : NOk h n) (so : ShOk h s (cV h n)) : Ev mX4_slackStrands 1 0 (entL [.ref s, .ref n] 4) [] h (PI (fun x h' => h' = h ∧ isSl (cV h n) (vS (cV h n)) x)) := by
  show Ev mX4_slackStrands 1 0 [some (.ref s), some (.ref n), none, none] [] h _
  have hv : VOk (cV h n) := ok.2.2.2.2.2
  have hS14 := hv.2.1
  have eSt := cV_S ok
  have hH := ok.2.2.2.1.1
  have hH2 := ok.f3
  have hhg := fun j => cV_H (s := j) ok
  have LOOP : ∀ (m k : Nat) (x : Int), vS (cV h n) - k = m → k ≤ vS (cV h n) → isSl (cV h n) k x → Ev mX4_slackStrands 1 4 [some (.ref s), some (.ref n), some (iv x), some (iv (k : Int))] [] h (PI (fun x h' => h' = h ∧ isSl (cV h n) (vS (cV h n)) x)) := by
    intro m
    induction m using Nat.strongRecOn with
    | ind m ih =>
      intro k x hm hk hx
      have hx0 := hx.1
      by_cases hk2 : k < vS (cV h n)
      · have eW := cV_W (h := h) (n := n) (s := k) (by omega)
        have hl := len_b hv so.1 hk2
        have hw := hv.2.2.2.1 k hk2
        refine Ev.iload_n dX4_slackStrands_4 (Eq.refl 5) rfl ?_
        refine Ev.aload_n dX4_slackStrands_5 (Eq.refl 6) rfl ?_
        refine Ev.getI dX4_slackStrands_6 (Eq.refl 9) fg_X4_66 (lyN0 (by assumption)) rfl ?_
        rw [eSt]
        refine Ev.icmp_ge (tgt := 50) dX4_slackStrands_9 (Eq.refl 12) (by decide) ⟨by omega, by omega⟩ ⟨by omega, by omega⟩ (fun c9 => ?_) (fun c9 => ?_)
        · omega
        · refine Ev.aload_n dX4_slackStrands_12 (Eq.refl 13) rfl ?_
          refine Ev.iload_n dX4_slackStrands_13 (Eq.refl 14) rfl ?_
          refine Ev.cv1E dX4_slackStrands_14 (Eq.refl 17) cw_X4_69 (Nat.le_of_ble_eq_true rfl) (by decide) (lyN0 (by assumption)) rfl rfl (Nat.le_of_ble_eq_true rfl) (c_hangs (by assumption) (by omega) (by omega)) ?_
          rw [Int.toNat_natCast]
          refine Ev.if_eqB (tgt := 44) dX4_slackStrands_17 (Eq.refl 20) (by decide) (fun c17 => ?_) (fun c17 => ?_)
          · refine Ev.ii3 dX4_slackStrands_44 (Eq.refl 47) (by decide) rfl ?_
            refine Ev.goto' (pc' := 4) dX4_slackStrands_47 (by decide) ?_
            first | exact ih _ (by omega) (k + 1) _ rfl (by omega) (isB_n (P := fun i => vH (cV h n) i = true ∧ len (cV h n) i < 100 * vW (cV h n) i) hx (fun z => c17 ((hhg k).mpr z.1))) | exact ih _ (by omega) (k + 1) _ rfl (by omega) (isB_n (P := fun i => vH (cV h n) i = true ∧ len (cV h n) i < 100 * vW (cV h n) i) hx (fun z => by have := z.2; omega)) | exact ih _ (by omega) (k + 1) _ rfl (by omega) (isB_s (P := fun i => vH (cV h n) i = true ∧ len (cV h n) i < 100 * vW (cV h n) i) hx ⟨(hhg k).mp c17, by omega⟩)
          · refine Ev.aload_n dX4_slackStrands_20 (Eq.refl 21) rfl ?_
            refine Ev.getR dX4_slackStrands_21 (Eq.refl 24) fg_X4_23 (lyS0 (by assumption)) rfl (rS3 hR (by assumption)) ?_
            refine Ev.iload_n dX4_slackStrands_24 (Eq.refl 25) rfl ?_
            refine Ev.iaload dX4_slackStrands_25 (Eq.refl 26) (lyS4 (by assumption)) rfl (by omega) (by decide) (by first | with_reducible exact Int.toNat_natCast _ | exact Eq.refl _) ?_
            rw [so.2.2.2 k hk2]
            refine Ev.bipush dX4_slackStrands_26 (Eq.refl 28) (by decide) ?_
            refine Ev.aload_n dX4_slackStrands_28 (Eq.refl 29) rfl ?_
            refine Ev.getR dX4_slackStrands_29 (Eq.refl 32) fg_X4_127 (lyN0 (by assumption)) rfl (rN11 hR (by assumption)) ?_
            refine Ev.iload_n dX4_slackStrands_32 (Eq.refl 33) rfl ?_
            refine Ev.iaload dX4_slackStrands_33 (Eq.refl 34) (lyN6 (by assumption)) rfl (by omega) (by decide) (by first | with_reducible exact Int.toNat_natCast _ | exact Eq.refl _) ?_
            rw [eW]
            refine Ev.imul dX4_slackStrands_34 (Eq.refl 35) ?_
            refine Ev.icmp_ge (tgt := 44) dX4_slackStrands_35 (Eq.refl 38) (by decide) ⟨by omega, by omega⟩ ⟨by omega, by omega⟩ (fun c35 => ?_) (fun c35 => ?_)
            · refine Ev.ii3 dX4_slackStrands_44 (Eq.refl 47) (by decide) rfl ?_
              refine Ev.goto' (pc' := 4) dX4_slackStrands_47 (by decide) ?_
              first | exact ih _ (by omega) (k + 1) _ rfl (by omega) (isB_n (P := fun i => vH (cV h n) i = true ∧ len (cV h n) i < 100 * vW (cV h n) i) hx (fun z => c17 ((hhg k).mpr z.1))) | exact ih _ (by omega) (k + 1) _ rfl (by omega) (isB_n (P := fun i => vH (cV h n) i = true ∧ len (cV h n) i < 100 * vW (cV h n) i) hx (fun z => by have := z.2; omega)) | exact ih _ (by omega) (k + 1) _ rfl (by omega) (isB_s (P := fun i => vH (cV h n) i = true ∧ len (cV h n) i < 100 * vW (cV h n) i) hx ⟨(hhg k).mp c17, by omega⟩)
            · refine Ev.iload_n dX4_slackStrands_38 (Eq.refl 39) rfl ?_
              refine Ev.iconst dX4_slackStrands_39 (Eq.refl 40) ?_
              refine Ev.iload_n dX4_slackStrands_40 (Eq.refl 41) rfl ?_
              refine Ev.ishl dX4_slackStrands_41 (Eq.refl 42) (b_shl (by omega) (by omega) (by omega) (shl1 (by omega))) ?_
              rw [Int.toNat_natCast]
              refine Ev.ior dX4_slackStrands_42 (Eq.refl 43) (b_or (by first | exact Int.natCast_nonneg _ | exact shl0 | omega) (by first | exact Int.natCast_nonneg _ | exact shl0 | omega)) ?_
              refine Ev.is2 dX4_slackStrands_43 (Eq.refl 44) (by decide) rfl ?_
              refine Ev.ii3 dX4_slackStrands_44 (Eq.refl 47) (by decide) rfl ?_
              refine Ev.goto' (pc' := 4) dX4_slackStrands_47 (by decide) ?_
              first | exact ih _ (by omega) (k + 1) _ rfl (by omega) (isB_n (P := fun i => vH (cV h n) i = true ∧ len (cV h n) i < 100 * vW (cV h n) i) hx (fun z => c17 ((hhg k).mpr z.1))) | exact ih _ (by omega) (k + 1) _ rfl (by omega) (isB_n (P := fun i => vH (cV h n) i = true ∧ len (cV h n) i < 100 * vW (cV h n) i) hx (fun z => by have := z.2; omega)) | exact ih _ (by omega) (k + 1) _ rfl (by omega) (isB_s (P := fun i => vH (cV h n) i = true ∧ len (cV h n) i < 100 * vW (cV h n) i) hx ⟨(hhg k).mp c17, by omega⟩)
      · have e : k = vS (cV h n) := by omega
        subst e
        refine Ev.iload_n dX4_slackStrands_4 (Eq.refl 5) rfl ?_
        refine Ev.aload_n dX4_slackStrands_5 (Eq.refl 6) rfl ?_
        refine Ev.getI dX4_slackStrands_6 (Eq.refl 9) fg_X4_66 (lyN0 (by assumption)) rfl ?_
        rw [eSt]
        refine Ev.icmp_ge (tgt := 50) dX4_slackStrands_9 (Eq.refl 12) (by decide) ⟨by omega, by omega⟩ ⟨by omega, by omega⟩ (fun c9 => ?_) (fun c9 => ?_)
        · refine Ev.iload_n dX4_slackStrands_50 (Eq.refl 51) rfl ?_
          exact Ev.iret dX4_slackStrands_51 rfl (⟨_, rfl, rfl, hx⟩)
        · omega
  refine Ev.iconst dX4_slackStrands_0 (Eq.refl 1) ?_
  refine Ev.is2 dX4_slackStrands_1 (Eq.refl 2) (by decide) rfl ?_
  refine Ev.iconst dX4_slackStrands_2 (Eq.refl 3) ?_
  refine Ev.is3 dX4_slackStrands_3 (Eq.refl 4) (by decide) rfl ?_
  exact LOOP _ 0 0 rfl (by omega) ⟨by omega, by decide, fun s => by simp⟩
noncomputable def mis (v : Nv) (k : Nat) : Int := if vH v k = true ∧ 0 < vW v k then offV v k else 0
noncomputable def missV (v : Nv) : Int := sm (mis v) (vS v)
theorem mis_b {v : Nv} (hv : VOk v) (ha : aH v (hgV v)) : ∀ m, m ≤ vS v → 0 ≤ sm (mis v) m ∧ sm (mis v) m ≤ 90000 * m
  | 0, _ => by simp [sm]
  | m + 1, h => by
    have ih := mis_b hv ha m (by omega)
    have := offV_b hv ha (k := m) (by omega)
    have e : 0 ≤ mis v m ∧ mis v m ≤ 90000 := by unfold mis; split <;> omega
    simp only [sm]; push_cast; omega
theorem missV_b {v : Nv} (hv : VOk v) (ha : aH v (hgV v)) : 0 ≤ missV v ∧ missV v ≤ 1260000 := by
  have := mis_b hv ha (vS v) (Nat.le_refl _)
  have := hv.2.1
  unfold missV; omega
theorem c_missed {h : Hp} {n s : Nat} (hR : ROk h.2.2) (hn : isNet n) (hs : isShp s) (ok : NOk h n) (so : ShOk h s (cV h n)) : Ev mX4_missed 2 0 (entL [.ref s, .ref n] 4) [] h (PE (missV (cV h n)) h) := by
  show Ev mX4_missed 2 0 [some (.ref s), some (.ref n), none, none] [] h _
  have hv : VOk (cV h n) := ok.2.2.2.2.2
  have hS14 := hv.2.1
  have eSt := cV_S ok
  have hH := ok.2.2.2.1.1
  have hH2 := ok.f3
  have hhg := fun j => cV_H (s := j) ok
  have LOOP : ∀ (m k : Nat), vS (cV h n) - k = m → k ≤ vS (cV h n) → Ev mX4_missed 2 4 [some (.ref s), some (.ref n), some (iv (sm (mis (cV h n)) k)), some (iv (k : Int))] [] h (PE (missV (cV h n)) h) := by
    intro m
    induction m using Nat.strongRecOn with
    | ind m ih =>
      intro k hm hk
      by_cases hk2 : k < vS (cV h n)
      · have eW := cV_W (h := h) (n := n) (s := k) (by omega)
        have hw := hv.2.2.2.1 k hk2
        have zer : mis (cV h n) k = 0 → Ev mX4_missed 2 4 [some (.ref s), some (.ref n), some (iv (sm (mis (cV h n)) k)), some (iv ((k : Int) + 1))] [] h (PE (missV (cV h n)) h) := fun e0 => by
          have := ih _ (by omega) (k + 1) rfl (by omega)
          rw [show sm (mis (cV h n)) (k + 1) = sm (mis (cV h n)) k from by show _ + mis (cV h n) k = _; rw [e0, Int.add_zero]] at this
          exact this
        refine Ev.iload_n dX4_missed_4 (Eq.refl 5) rfl ?_
        refine Ev.aload_n dX4_missed_5 (Eq.refl 6) rfl ?_
        refine Ev.getI dX4_missed_6 (Eq.refl 9) fg_X4_66 (lyN0 (by assumption)) rfl ?_
        rw [eSt]
        refine Ev.icmp_ge (tgt := 44) dX4_missed_9 (Eq.refl 12) (by decide) ⟨by omega, by omega⟩ ⟨by omega, by omega⟩ (fun c9 => ?_) (fun c9 => ?_)
        · omega
        · refine Ev.aload_n dX4_missed_12 (Eq.refl 13) rfl ?_
          refine Ev.iload_n dX4_missed_13 (Eq.refl 14) rfl ?_
          refine Ev.cv1E dX4_missed_14 (Eq.refl 17) cw_X4_69 (Nat.le_of_ble_eq_true rfl) (by decide) (lyN0 (by assumption)) rfl rfl (Nat.le_of_ble_eq_true rfl) (c_hangs (by assumption) (by omega) (by omega)) ?_
          rw [Int.toNat_natCast]
          refine Ev.if_eqB (tgt := 38) dX4_missed_17 (Eq.refl 20) (by decide) (fun c17 => ?_) (fun c17 => ?_)
          · refine Ev.ii3 dX4_missed_38 (Eq.refl 41) (by decide) rfl ?_
            refine Ev.goto' (pc' := 4) dX4_missed_41 (by decide) ?_
            first | exact zer (if_neg (fun z => c17 ((hhg k).mpr z.1))) | exact zer (if_neg (fun z => by have := z.2; omega)) | exact ih _ (by omega) (k + 1) rfl (by omega)
          · refine Ev.aload_n dX4_missed_20 (Eq.refl 21) rfl ?_
            refine Ev.getR dX4_missed_21 (Eq.refl 24) fg_X4_127 (lyN0 (by assumption)) rfl (rN11 hR (by assumption)) ?_
            refine Ev.iload_n dX4_missed_24 (Eq.refl 25) rfl ?_
            refine Ev.iaload dX4_missed_25 (Eq.refl 26) (lyN6 (by assumption)) rfl (by omega) (by decide) (by first | with_reducible exact Int.toNat_natCast _ | exact Eq.refl _) ?_
            rw [eW]
            refine Ev.if_le (tgt := 38) dX4_missed_26 (Eq.refl 29) (by decide) ⟨by omega, by omega⟩ (fun c26 => ?_) (fun c26 => ?_)
            · refine Ev.ii3 dX4_missed_38 (Eq.refl 41) (by decide) rfl ?_
              refine Ev.goto' (pc' := 4) dX4_missed_41 (by decide) ?_
              first | exact zer (if_neg (fun z => c17 ((hhg k).mpr z.1))) | exact zer (if_neg (fun z => by have := z.2; omega)) | exact ih _ (by omega) (k + 1) rfl (by omega)
            · refine Ev.iload_n dX4_missed_29 (Eq.refl 30) rfl ?_
              refine Ev.aload_n dX4_missed_30 (Eq.refl 31) rfl ?_
              refine Ev.aload_n dX4_missed_31 (Eq.refl 32) rfl ?_
              refine Ev.iload_n dX4_missed_32 (Eq.refl 33) rfl ?_
              refine Ev.cv2E dX4_missed_33 (Eq.refl 36) cw_X4_133 (Nat.le_of_ble_eq_true rfl) (by decide) (lyS0 (by assumption)) rfl rfl (Nat.le_of_ble_eq_true rfl) (c_off hR (by assumption) (by assumption) (by assumption) (by assumption) (by omega)) ?_
              refine Ev.iadd dX4_missed_36 (Eq.refl 37) ?_
              rw [show offV (cV h n) k = mis (cV h n) k from (if_pos ⟨(hhg k).mp c17, by omega⟩).symm]
              refine Ev.is2 dX4_missed_37 (Eq.refl 38) (by decide) rfl ?_
              refine Ev.ii3 dX4_missed_38 (Eq.refl 41) (by decide) rfl ?_
              refine Ev.goto' (pc' := 4) dX4_missed_41 (by decide) ?_
              first | exact zer (if_neg (fun z => c17 ((hhg k).mpr z.1))) | exact zer (if_neg (fun z => by have := z.2; omega)) | exact ih _ (by omega) (k + 1) rfl (by omega)
      · have e : k = vS (cV h n) := by omega
        subst e
        refine Ev.iload_n dX4_missed_4 (Eq.refl 5) rfl ?_
        refine Ev.aload_n dX4_missed_5 (Eq.refl 6) rfl ?_
        refine Ev.getI dX4_missed_6 (Eq.refl 9) fg_X4_66 (lyN0 (by assumption)) rfl ?_
        rw [eSt]
        refine Ev.icmp_ge (tgt := 44) dX4_missed_9 (Eq.refl 12) (by decide) ⟨by omega, by omega⟩ ⟨by omega, by omega⟩ (fun c9 => ?_) (fun c9 => ?_)
        · refine Ev.iload_n dX4_missed_44 (Eq.refl 45) rfl ?_
          exact Ev.iret dX4_missed_45 rfl (PE.mk)
        · omega
  refine Ev.iconst dX4_missed_0 (Eq.refl 1) ?_
  refine Ev.is2 dX4_missed_1 (Eq.refl 2) (by decide) rfl ?_
  refine Ev.iconst dX4_missed_2 (Eq.refl 3) ?_
  refine Ev.is3 dX4_missed_3 (Eq.refl 4) (by decide) rfl ?_
  exact LOOP _ 0 rfl (by omega)
