/-! Shape.clearColumn, eliminate -/
theorem cm_lt {N c : Nat} (h : c < N) : cm N c = c := if_pos h
theorem cm8 {N c : Nat} (h5 : N ≤ 5) (hc : c < N + 3) : cm N c < 8 := by unfold cm; split <;> omega
theorem cm_ge {N a : Nat} : cm N (N + a) = 5 + a := by unfold cm; rw [if_neg (by omega)]; omega
theorem c_clearCol {h : Hp} {s i k N : Nat} {p d : Int} (hR : ROk h.2.2) (hs : isShp s) (hi : i < N) (hk : k < N) (h5 : N ≤ 5) (g4 : h.1 s 4 = (N : Int)) (hik : i ≠ k) (hd : 0 < d ∧ d ≤ 9223372036854775807) (g5 : h.2.1 s 5 = d) (hb : ∀ c, c < N + 3 → I64 (p * h.2.1 (s + 5 + i) c - h.2.1 (s + 5 + i) k * h.2.1 (s + 5 + k) c)) : Ev mX4_clearColumn 0 0 (entL [.ref s, iv (i : Int), iv (k : Int), jv p] 8) [] h (PV (fun h' => Fl s h h' ∧ (∀ r, r ≠ i → ∀ c, h'.2.1 (s + 5 + r) c = h.2.1 (s + 5 + r) c) ∧ ∀ c, c < N + 3 → h'.2.1 (s + 5 + i) c = (p * h.2.1 (s + 5 + i) c - h.2.1 (s + 5 + i) k * h.2.1 (s + 5 + k) c).tdiv d)) := by
  show Ev mX4_clearColumn 0 0 [some (.ref s), some (iv (i : Int)), some (iv (k : Int)), some (jv p), none, none, none, none] [] h _
  generalize hf : h.2.1 (s + 5 + i) k = f at *
  have LOOP : ∀ (m c : Nat) (g : Hp), N + 3 - c = m → c ≤ N + 3 → Fl s h g → (∀ r, r ≠ i → ∀ c, g.2.1 (s + 5 + r) c = h.2.1 (s + 5 + r) c) → (∀ x, x < c → g.2.1 (s + 5 + i) x = (p * h.2.1 (s + 5 + i) x - f * h.2.1 (s + 5 + k) x).tdiv d) → (∀ x, c ≤ x → g.2.1 (s + 5 + i) x = h.2.1 (s + 5 + i) x) → Ev mX4_clearColumn 0 23 [some (.ref s), some (iv (i : Int)), some (iv (k : Int)), some (jv p), none, some (jv f), none, some (iv (c : Int))] [] g (PV (fun h' => Fl s h h' ∧ (∀ r, r ≠ i → ∀ c, h'.2.1 (s + 5 + r) c = h.2.1 (s + 5 + r) c) ∧ ∀ c, c < N + 3 → h'.2.1 (s + 5 + i) c = (p * h.2.1 (s + 5 + i) c - f * h.2.1 (s + 5 + k) c).tdiv d)) := by
    intro m
    induction m using Nat.strongRecOn with
    | ind m ih =>
      intro c g hm hc hF hr hx hy
      have hR : ROk g.2.2 := by rw [hF.2.1]; exact hR
      have e4 : g.1 s 4 = (N : Int) := by rw [hF.1]; exact g4
      have e5 : g.2.1 s 5 = d := by rw [hF.2.2 s (by unfold inW; omega)]; exact g5
      have ei := hy c (Nat.le_refl c)
      have ek := hr k (fun e => hik e.symm) c
      refine Ev.iload dX4_clearColumn_23 (Eq.refl 25) rfl ?_
      refine Ev.aload_n dX4_clearColumn_25 (Eq.refl 26) rfl ?_
      refine Ev.getI dX4_clearColumn_26 (Eq.refl 29) fg_X4_52 (lyS0 (by assumption)) rfl ?_
      rw [e4]
      refine Ev.iconst dX4_clearColumn_29 (Eq.refl 30) ?_
      refine Ev.iadd dX4_clearColumn_30 (Eq.refl 31) ?_
      refine Ev.icmp_ge (tgt := 78) dX4_clearColumn_31 (Eq.refl 34) (by decide) ⟨by omega, by omega⟩ ⟨by omega, by omega⟩ (fun c31 => ?_) (fun c31 => ?_)
      · have e : c = N + 3 := by omega
        subst e
        exact Ev.vret dX4_clearColumn_78 rfl (⟨rfl, hF, hr, fun c hc => hx c hc⟩)
      · refine Ev.aload_n dX4_clearColumn_34 (Eq.refl 35) rfl ?_
        refine Ev.getR dX4_clearColumn_35 (Eq.refl 38) fg_X4_17 (lyS0 (by assumption)) rfl (rS1 hR (by assumption)) ?_
        refine Ev.iload_n dX4_clearColumn_38 (Eq.refl 39) rfl ?_
        refine Ev.aaload dX4_clearColumn_39 (Eq.refl 40) (lyS2 (by assumption)) rfl (Or.inr ⟨_, rfl⟩) (by omega) (by decide) (by first | with_reducible exact Int.toNat_natCast _ | exact Eq.refl _) (rSr hR hs (i := i) (by omega)) ?_
        refine Ev.iload dX4_clearColumn_40 (Eq.refl 42) rfl ?_
        refine Ev.lload_n dX4_clearColumn_42 (Eq.refl 43) rfl ?_
        refine Ev.aload_n dX4_clearColumn_43 (Eq.refl 44) rfl ?_
        refine Ev.getR dX4_clearColumn_44 (Eq.refl 47) fg_X4_17 (lyS0 (by assumption)) rfl (rS1 hR (by assumption)) ?_
        refine Ev.iload_n dX4_clearColumn_47 (Eq.refl 48) rfl ?_
        refine Ev.aaload dX4_clearColumn_48 (Eq.refl 49) (lyS2 (by assumption)) rfl (Or.inr ⟨_, rfl⟩) (by omega) (by decide) (by first | with_reducible exact Int.toNat_natCast _ | exact Eq.refl _) (rSr hR hs (i := i) (by omega)) ?_
        refine Ev.iload dX4_clearColumn_49 (Eq.refl 51) rfl ?_
        refine Ev.laload dX4_clearColumn_51 (Eq.refl 52) (lyRow hs (by omega)) rfl (by omega) (by decide) (by first | with_reducible exact Int.toNat_natCast _ | exact Eq.refl _) ?_
        rw [ei]
        refine Ev.lmul dX4_clearColumn_52 (Eq.refl 53) ?_
        refine Ev.lload dX4_clearColumn_53 (Eq.refl 55) rfl ?_
        refine Ev.aload_n dX4_clearColumn_55 (Eq.refl 56) rfl ?_
        refine Ev.getR dX4_clearColumn_56 (Eq.refl 59) fg_X4_17 (lyS0 (by assumption)) rfl (rS1 hR (by assumption)) ?_
        refine Ev.iload_n dX4_clearColumn_59 (Eq.refl 60) rfl ?_
        refine Ev.aaload dX4_clearColumn_60 (Eq.refl 61) (lyS2 (by assumption)) rfl (Or.inr ⟨_, rfl⟩) (by omega) (by decide) (by first | with_reducible exact Int.toNat_natCast _ | exact Eq.refl _) (rSr hR hs (i := k) (by omega)) ?_
        refine Ev.iload dX4_clearColumn_61 (Eq.refl 63) rfl ?_
        refine Ev.laload dX4_clearColumn_63 (Eq.refl 64) (lyRow hs (by omega)) rfl (by omega) (by decide) (by first | with_reducible exact Int.toNat_natCast _ | exact Eq.refl _) ?_
        rw [ek]
        refine Ev.lmul dX4_clearColumn_64 (Eq.refl 65) ?_
        refine Ev.lsub dX4_clearColumn_65 (Eq.refl 66) ?_
        refine Ev.aload_n dX4_clearColumn_66 (Eq.refl 67) rfl ?_
        refine Ev.getL dX4_clearColumn_67 (Eq.refl 70) fg_X4_26 (lyS0 (by assumption)) rfl ?_
        rw [e5]
        refine Ev.ldiv dX4_clearColumn_70 (Eq.refl 71) (hb c (by omega)) ⟨by omega, by omega⟩ (by omega) ?_
        refine Ev.lastore dX4_clearColumn_71 (Eq.refl 72) (lyRow hs (by omega)) rfl (by omega) (by decide) (by first | with_reducible exact Int.toNat_natCast _ | exact Eq.refl _) ?_
        refine Ev.ii7 dX4_clearColumn_72 (Eq.refl 75) (by decide) rfl ?_
        refine Ev.goto' (pc' := 23) dX4_clearColumn_75 (by decide) ?_
        exact ih _ (by omega) (c + 1) _ rfl (by omega) (hF.w ⟨by omega, by omega⟩) (fun r hn x => by rw [hL_ni (by omega)]; exact hr r hn x) (fun x hx2 => by rw [hL_rd]; exact (if e : x = c then by rw [if_pos ⟨rfl, e⟩, e] else by rw [if_neg (fun z => e z.2)]; exact hx x (by omega))) (fun x hx2 => by rw [hL_nk (by omega)]; exact hy x (by omega))
  refine Ev.aload_n dX4_clearColumn_0 (Eq.refl 1) rfl ?_
  refine Ev.getR dX4_clearColumn_1 (Eq.refl 4) fg_X4_17 (lyS0 (by assumption)) rfl (rS1 hR (by assumption)) ?_
  refine Ev.iload_n dX4_clearColumn_4 (Eq.refl 5) rfl ?_
  refine Ev.aaload dX4_clearColumn_5 (Eq.refl 6) (lyS2 (by assumption)) rfl (Or.inr ⟨_, rfl⟩) (by omega) (by decide) (by first | with_reducible exact Int.toNat_natCast _ | exact Eq.refl _) (rSr hR hs (i := i) (by omega)) ?_
  refine Ev.iload_n dX4_clearColumn_6 (Eq.refl 7) rfl ?_
  refine Ev.laload dX4_clearColumn_7 (Eq.refl 8) (lyRow hs (by omega)) rfl (by omega) (by decide) (by first | with_reducible exact Int.toNat_natCast _ | exact Eq.refl _) ?_
  rw [hf]
  refine Ev.ls5 dX4_clearColumn_8 (Eq.refl 10) (by decide) rfl ?_
  refine Ev.aload_n dX4_clearColumn_10 (Eq.refl 11) rfl ?_
  refine Ev.getL dX4_clearColumn_11 (Eq.refl 14) fg_X4_26 (lyS0 (by assumption)) rfl ?_
  rw [g5]
  refine Ev.lconst0 dX4_clearColumn_14 (Eq.refl 15) ?_
  refine Ev.ifl_gt (tgt := 20) dX4_clearColumn_15 (Eq.refl 16) dX4_clearColumn_16 (Eq.refl 19) (by decide) ⟨by omega, by omega⟩ ⟨by omega, by omega⟩ (fun c15 => ?_) (fun c15 => ?_)
  · refine Ev.iconst dX4_clearColumn_20 (Eq.refl 21) ?_
    refine Ev.is7 dX4_clearColumn_21 (Eq.refl 23) (by decide) rfl ?_
    exact LOOP _ 0 _ rfl (by omega) Fl.rf (fun _ _ _ => rfl) (fun x hx => by omega) (fun _ _ => rfl)
  · omega
def Fm (s : Nat) (h h' : Hp) : Prop := h'.1 = h.1 ∧ h'.2.2 = h.2.2 ∧ ∀ i, ¬ inS s i → ∀ j, h'.2.1 i j = h.2.1 i j
theorem Fm.rf {s : Nat} {h : Hp} : Fm s h h := ⟨rfl, rfl, fun _ _ _ => rfl⟩
theorem Fm.tl {s : Nat} {h h' h'' : Hp} (a : Fm s h h') (b : Fl s h' h'') : Fm s h h'' := ⟨b.1.trans a.1, b.2.1.trans a.2.1, fun i q j => (b.2.2 i (fun z => q ⟨by have := z.1; omega, z.2⟩) j).trans (a.2.2 i q j)⟩
theorem Fm.w {s i k : Nat} {h g : Hp} {x : Int} (a : Fm s h g) (hi : inS s i) : Fm s h (hL g i k x) := ⟨a.1, a.2.1, fun i' q j => by rw [hL_ni (show i' ≠ i from fun e => q (by rw [e]; exact hi))]; exact a.2.2 i' q j⟩
theorem dB_64 {v : Nv} (hv : VOk v) (ha : aH v (hgV v)) {i : Nat} (hi : i ≤ vN v) : 0 < dB v i ∧ dB v i ≤ 9223372036854775807 := by
  refine ⟨dB_pos hv ha hi, ?_⟩
  cases i with
  | zero => show (1 : Int) ≤ _; decide
  | succ i =>
    have := (tB_ab hv ha (i := i) (r := i) (c := i) (by omega) (by omega) (by have := vN5 hv; omega)).2
    exact Int.le_trans this (by decide)
theorem c_elim {h : Hp} {s : Nat} {v : Nv} (hR : ROk h.2.2) (hs : isShp s) (hv : VOk v) (ha : aH v (hgV v)) (g4 : h.1 s 4 = (vN v : Int)) (hW : RW h s (vN v) (T0 v)) : Ev mX4_eliminate 1 0 (entL [.ref s] 5) [] h (PI (fun x h' => x = 1 ∧ Fm s h h' ∧ RW h' s (vN v) (tB v (vN v)) ∧ h'.2.1 s 5 = dB v (vN v))) := by
  show Ev mX4_eliminate 1 0 [some (.ref s), none, none, none, none] [] h _
  have h5 := vN5 hv
  have OUT : ∀ (m k : Nat) (g : Hp) (a b : Option Value), vN v - k = m → k ≤ vN v → Fm s h g → RW g s (vN v) (tB v k) → g.2.1 s 5 = dB v k → Ev mX4_eliminate 1 7 [some (.ref s), some (iv (k : Int)), a, none, b] [] g (PI (fun x h' => x = 1 ∧ Fm s h h' ∧ RW h' s (vN v) (tB v (vN v)) ∧ h'.2.1 s 5 = dB v (vN v))) := by
    intro m
    induction m using Nat.strongRecOn with
    | ind m ih =>
      intro k g a b hm hk hF hW e5
      have hd := dB_64 hv ha hk
      have IN : ∀ (m2 i : Nat) (g : Hp), k < vN v → vN v - i = m2 → i ≤ vN v → Fm s h g → RW g s (vN v) (fun r c => if r < i then tB v (k + 1) r c else tB v k r c) → g.2.1 s 5 = dB v k → Ev mX4_eliminate 1 44 [some (.ref s), some (iv (k : Int)), some (jv (tB v k k k)), none, some (iv (i : Int))] [] g (PI (fun x h' => x = 1 ∧ Fm s h h' ∧ RW h' s (vN v) (tB v (vN v)) ∧ h'.2.1 s 5 = dB v (vN v))) := by
        intro m2
        induction m2 using Nat.strongRecOn with
        | ind m2 ih2 =>
          intro i g hk2 hm2 hi hF hW e5
          have hR : ROk g.2.2 := by rw [hF.2.1]; exact hR
          have e4 : g.1 s 4 = (vN v : Int) := by rw [hF.1]; exact g4
          have rk : ∀ c, c < vN v + 3 → g.2.1 (s + 5 + k) c = tB v k k (cm (vN v) c) := fun c hc => by
            rw [hW k c hk2 hc]
            show (if k < i then tB v (k + 1) k _ else tB v k k _) = _
            rw [show tB v (k + 1) k (cm (vN v) c) = tB v k k (cm (vN v) c) from bs_k]
            split <;> rfl
          have ri : i < vN v → ∀ c, c < vN v + 3 → g.2.1 (s + 5 + i) c = tB v k i (cm (vN v) c) := fun hi2 c hc => by
            rw [hW i c hi2 hc]
            exact if_neg (by omega)
          have hb : i < vN v → i ≠ k → ∀ c, c < vN v + 3 → I64 (tB v k k k * g.2.1 (s + 5 + i) c - g.2.1 (s + 5 + i) k * g.2.1 (s + 5 + k) c) := fun hi2 hn c hc => by
            rw [rk c hc, ri hi2 c hc, ri hi2 k (by omega), cm_lt hk2]
            have := tB_pr hv ha hk2 hi2 hn (cm8 h5 hc)
            unfold Ab at this
            exact ⟨by omega, by omega⟩
          refine Ev.iload dX4_eliminate_44 (Eq.refl 46) rfl ?_
          refine Ev.aload_n dX4_eliminate_46 (Eq.refl 47) rfl ?_
          refine Ev.getI dX4_eliminate_47 (Eq.refl 50) fg_X4_52 (lyS0 (by assumption)) rfl ?_
          rw [e4]
          refine Ev.icmp_ge (tgt := 73) dX4_eliminate_50 (Eq.refl 53) (by decide) ⟨by omega, by omega⟩ ⟨by omega, by omega⟩ (fun c50 => ?_) (fun c50 => ?_)
          · have e : i = vN v := by omega
            subst e
            refine Ev.aload_n dX4_eliminate_73 (Eq.refl 74) rfl ?_
            refine Ev.lload_n dX4_eliminate_74 (Eq.refl 75) rfl ?_
            refine Ev.putL dX4_eliminate_75 (Eq.refl 78) fp_X4_26 (lyS0 (by assumption)) rfl ?_
            refine Ev.ii1 dX4_eliminate_78 (Eq.refl 81) (by decide) rfl ?_
            refine Ev.goto' (pc' := 7) dX4_eliminate_81 (by decide) ?_
            exact ih _ (by omega) (k + 1) _ _ _ rfl (by omega) (hF.w ⟨by omega, by omega⟩) (fun r c hr hc => by rw [hL_ni (by omega), hW r c hr hc]; exact if_pos hr) hL_eq
          · have hi2 : i < vN v := by omega
            refine Ev.iload dX4_eliminate_53 (Eq.refl 55) rfl ?_
            refine Ev.iload_n dX4_eliminate_55 (Eq.refl 56) rfl ?_
            refine Ev.icmp_eq (tgt := 67) dX4_eliminate_56 (Eq.refl 59) (by decide) ⟨by omega, by omega⟩ ⟨by omega, by omega⟩ (fun c56 => ?_) (fun c56 => ?_)
            · have e : i = k := by omega
              refine Ev.ii4 dX4_eliminate_67 (Eq.refl 70) (by decide) rfl ?_
              refine Ev.goto' (pc' := 44) dX4_eliminate_70 (by decide) ?_
              first | exact ih2 _ (by omega) (i + 1) _ hk2 rfl (by omega) hF (fun r c hr hc => by rw [hW r c hr hc]; show (if r < i then _ else _) = (if r < i + 1 then _ else _); exact (if q : r = k then by rw [q, show tB v (k + 1) k (cm (vN v) c) = tB v k k (cm (vN v) c) from bs_k]; split <;> split <;> rfl else if q2 : r < i then by rw [if_pos q2, if_pos (by omega)] else by rw [if_neg q2, if_neg (by omega)])) e5 | exact ih2 _ (by omega) (i + 1) _ hk2 rfl (by omega) (hF.tl hF2) (fun r c hr hc => by show _ = (if r < i + 1 then _ else _); exact (if q : r = i then by rw [q, h3 c hc, if_pos (by omega), rk c hc, ri hi2 c hc, ri hi2 k (by omega), cm_lt hk2]; exact (if_neg hn).symm else by rw [h2 r q c, hW r c hr hc]; show (if r < i then _ else _) = _; exact (if q2 : r < i then by rw [if_pos q2, if_pos (by omega)] else by rw [if_neg q2, if_neg (by omega)]))) (by rw [hF2.2.2 s (by unfold inW; omega)]; exact e5)
            · have hn : i ≠ k := by omega
              refine Ev.aload_n dX4_eliminate_59 (Eq.refl 60) rfl ?_
              refine Ev.iload dX4_eliminate_60 (Eq.refl 62) rfl ?_
              refine Ev.iload_n dX4_eliminate_62 (Eq.refl 63) rfl ?_
              refine Ev.lload_n dX4_eliminate_63 (Eq.refl 64) rfl ?_
              refine Ev.cv3V dX4_eliminate_64 (Eq.refl 67) cw_X4_92 (Nat.le_of_ble_eq_true rfl) (by decide) (lyS0 (by assumption)) rfl rfl (Nat.le_of_ble_eq_true rfl) (c_clearCol hR hs hi2 hk2 h5 e4 hn hd e5 (hb hi2 hn)) (fun g64 hp64 => ?_)
              obtain ⟨hF2, h2, h3⟩ := hp64
              refine Ev.ii4 dX4_eliminate_67 (Eq.refl 70) (by decide) rfl ?_
              refine Ev.goto' (pc' := 44) dX4_eliminate_70 (by decide) ?_
              first | exact ih2 _ (by omega) (i + 1) _ hk2 rfl (by omega) hF (fun r c hr hc => by rw [hW r c hr hc]; show (if r < i then _ else _) = (if r < i + 1 then _ else _); exact (if q : r = k then by rw [q, show tB v (k + 1) k (cm (vN v) c) = tB v k k (cm (vN v) c) from bs_k]; split <;> split <;> rfl else if q2 : r < i then by rw [if_pos q2, if_pos (by omega)] else by rw [if_neg q2, if_neg (by omega)])) e5 | exact ih2 _ (by omega) (i + 1) _ hk2 rfl (by omega) (hF.tl hF2) (fun r c hr hc => by show _ = (if r < i + 1 then _ else _); exact (if q : r = i then by rw [q, h3 c hc, if_pos (by omega), rk c hc, ri hi2 c hc, ri hi2 k (by omega), cm_lt hk2]; exact (if_neg hn).symm else by rw [h2 r q c, hW r c hr hc]; show (if r < i then _ else _) = _; exact (if q2 : r < i then by rw [if_pos q2, if_pos (by omega)] else by rw [if_neg q2, if_neg (by omega)]))) (by rw [hF2.2.2 s (by unfold inW; omega)]; exact e5)
      have hR : ROk g.2.2 := by rw [hF.2.1]; exact hR
      have e4 : g.1 s 4 = (vN v : Int) := by rw [hF.1]; exact g4
      by_cases hk2 : k < vN v
      · have ek : g.2.1 (s + 5 + k) k = tB v k k k := by rw [hW k k hk2 (by omega), cm_lt hk2]
        have hp := tB_pos hv ha hk2
        have hp2 := (tB_ab hv ha (i := k) (r := k) (c := k) hk2 hk2 (by omega)).2
        have hp3 : tB v k k k ≤ 68719476736 := hp2
        refine Ev.iload_n dX4_eliminate_7 (Eq.refl 8) rfl ?_
        refine Ev.aload_n dX4_eliminate_8 (Eq.refl 9) rfl ?_
        refine Ev.getI dX4_eliminate_9 (Eq.refl 12) fg_X4_52 (lyS0 (by assumption)) rfl ?_
        rw [e4]
        refine Ev.icmp_ge (tgt := 84) dX4_eliminate_12 (Eq.refl 15) (by decide) ⟨by omega, by omega⟩ ⟨by omega, by omega⟩ (fun c12 => ?_) (fun c12 => ?_)
        · omega
        · refine Ev.aload_n dX4_eliminate_15 (Eq.refl 16) rfl ?_
          refine Ev.getR dX4_eliminate_16 (Eq.refl 19) fg_X4_17 (lyS0 (by assumption)) rfl (rS1 hR (by assumption)) ?_
          refine Ev.iload_n dX4_eliminate_19 (Eq.refl 20) rfl ?_
          refine Ev.aaload dX4_eliminate_20 (Eq.refl 21) (lyS2 (by assumption)) rfl (Or.inr ⟨_, rfl⟩) (by omega) (by decide) (by first | with_reducible exact Int.toNat_natCast _ | exact Eq.refl _) (rSr hR hs (i := k) (by omega)) ?_
          refine Ev.iload_n dX4_eliminate_21 (Eq.refl 22) rfl ?_
          refine Ev.laload dX4_eliminate_22 (Eq.refl 23) (lyRow hs (by omega)) rfl (by omega) (by decide) (by first | with_reducible exact Int.toNat_natCast _ | exact Eq.refl _) ?_
          rw [ek]
          refine Ev.ls2 dX4_eliminate_23 (Eq.refl 24) (by decide) rfl ?_
          refine Ev.lload_n dX4_eliminate_24 (Eq.refl 25) rfl ?_
          refine Ev.lconst0 dX4_eliminate_25 (Eq.refl 26) ?_
          refine Ev.ifl_le (tgt := 39) dX4_eliminate_26 (Eq.refl 27) dX4_eliminate_27 (Eq.refl 30) (by decide) ⟨by omega, by omega⟩ ⟨by omega, by omega⟩ (fun c26 => ?_) (fun c26 => ?_)
          · omega
          · refine Ev.aload_n dX4_eliminate_30 (Eq.refl 31) rfl ?_
            refine Ev.getL dX4_eliminate_31 (Eq.refl 34) fg_X4_26 (lyS0 (by assumption)) rfl ?_
            rw [e5]
            refine Ev.lconst0 dX4_eliminate_34 (Eq.refl 35) ?_
            refine Ev.ifl_gt (tgt := 41) dX4_eliminate_35 (Eq.refl 36) dX4_eliminate_36 (Eq.refl 39) (by decide) ⟨by omega, by omega⟩ ⟨by omega, by omega⟩ (fun c35 => ?_) (fun c35 => ?_)
            · refine Ev.iconst dX4_eliminate_41 (Eq.refl 42) ?_
              refine Ev.is4 dX4_eliminate_42 (Eq.refl 44) (by decide) rfl ?_
              exact IN _ 0 _ hk2 rfl (by omega) hF (fun r c hr hc => by rw [hW r c hr hc]; exact (if_neg (by omega)).symm) e5
            · omega
      · have e : k = vN v := by omega
        subst e
        refine Ev.iload_n dX4_eliminate_7 (Eq.refl 8) rfl ?_
        refine Ev.aload_n dX4_eliminate_8 (Eq.refl 9) rfl ?_
        refine Ev.getI dX4_eliminate_9 (Eq.refl 12) fg_X4_52 (lyS0 (by assumption)) rfl ?_
        rw [e4]
        refine Ev.icmp_ge (tgt := 84) dX4_eliminate_12 (Eq.refl 15) (by decide) ⟨by omega, by omega⟩ ⟨by omega, by omega⟩ (fun c12 => ?_) (fun c12 => ?_)
        · refine Ev.iconst dX4_eliminate_84 (Eq.refl 85) ?_
          exact Ev.zret dX4_eliminate_85 rfl (by first | exact bi01 _ | exact Or.inl rfl | exact Or.inr rfl | omega) (⟨_, rfl, rfl, hF, hW, e5⟩)
        · omega
  refine Ev.aload_n dX4_eliminate_0 (Eq.refl 1) rfl ?_
  refine Ev.lconst1 dX4_eliminate_1 (Eq.refl 2) ?_
  refine Ev.putL dX4_eliminate_2 (Eq.refl 5) fp_X4_26 (lyS0 (by assumption)) rfl ?_
  refine Ev.iconst dX4_eliminate_5 (Eq.refl 6) ?_
  refine Ev.is1 dX4_eliminate_6 (Eq.refl 7) (by decide) rfl ?_
  exact OUT _ 0 _ _ _ rfl (by omega) (Fm.rf.w ⟨by omega, by omega⟩) (fun r c hr hc => by rw [hL_ni (by omega)]; exact hW r c hr hc) hL_eq
