/-! Cutter: leastThinkable, fewest -/
def LBy (x : Nat → Int) (P : Nat) (Z y : Int) : Prop := 0 ≤ y ∧ ∀ t : Nat, cp t x P P (fun _ => Z) → y ≤ (t : Int)
theorem LBy.max {x : Nat → Int} {P : Nat} {Z a b : Int} (h : LBy x P Z a) (g : LBy x P Z b) : LBy x P Z (if a < b then b else a) := by split; exact g; exact h
theorem LBy.c {x : Nat → Int} {P : Nat} {Z : Int} (h0 : ∀ k, 0 ≤ x k) (hZ : 0 < Z) : LBy x P Z ((sm x P + Z - 1).tdiv Z) := by
  have s0 : 0 ≤ sm x P := sm_nn P (fun i _ => h0 i)
  rw [Int.tdiv_eq_ediv_of_nonneg (by omega)]
  refine ⟨Int.ediv_nonneg (by omega) (by omega), fun t h => ?_⟩
  have := pk_sum (fun k _ => h0 k) (by omega) h
  have : (sm x P + Z - 1) / Z < (t : Int) + 1 := (Int.ediv_lt_iff_lt_mul hZ).mpr (by rw [Int.add_mul, Int.one_mul]; omega)
  omega
theorem LBy.k {x : Nat → Int} {P k : Nat} {Z : Int} (hk : k < P) (h0 : ∀ k, 0 ≤ x k ∧ x k ≤ Z) (hs : ∀ i, i ≤ k → x k ≤ x i) (hp : 0 < x k) : (if 1 < Z.tdiv (x k) then Z.tdiv (x k) else 1) = Z / x k ∧ 1 ≤ Z / x k ∧ Z / x k ≤ Z ∧ LBy x P Z (((k : Int) + Z / x k).tdiv (Z / x k)) := by
  have b := h0 k
  have e : Z.tdiv (x k) = Z / x k := Int.tdiv_eq_ediv_of_nonneg (by omega)
  have l1 : 1 ≤ Z / x k := (Int.le_ediv_iff_mul_le hp).mpr (by omega)
  have l2 : Z / x k ≤ Z := Int.ediv_le_self _ (by omega)
  refine ⟨by rw [e]; split <;> omega, l1, l2, ?_⟩
  rw [Int.tdiv_eq_ediv_of_nonneg (by omega)]
  refine ⟨Int.ediv_nonneg (by omega) (by omega), fun t h => ?_⟩
  exact pk_ceil (by omega) (pk_many hk (by omega) (fun i => (h0 i).1) hs hp h)
theorem c_least {h : Hp} {P u : Nat} {x : Nat → Int} {Z : Int} (hR : ROk h.2.2) (hP : P ≤ 14) (h4 : h.1 18 4 = (P : Int)) (h5 : h.1 18 5 = Z) (h20 : ∀ k, k < P → h.1 20 k = x k) (hx : ∀ k, 0 ≤ x k ∧ x k ≤ Z) (hso : ∀ i k, i ≤ k → k < P → x k ≤ x i) (hZ : 1 ≤ Z ∧ Z ≤ 9900) (hu : u ≤ 14 ∧ cp u x P P (fun _ => Z)) : Ev mX0_leastThinkable 1 0 (entL [.ref 18, iv (sm x P)] 5) [] h (PI (fun y h' => h' = h ∧ LBy x P Z y)) := by
  show Ev mX0_leastThinkable 1 0 [some (.ref 18), some (iv (sm x P)), none, none, none] [] h _
  have sx := sm_rng (f := x) (Z := Z) P (fun i _ => hx i)
  have pz := tZ hP (show 0 ≤ Z by omega) hZ.2
  have cb : ∀ y, LBy x P Z y → 0 ≤ y ∧ y ≤ 14 := fun y hy => ⟨hy.1, by have := hy.2 u hu.2; omega⟩
  have LOOP : ∀ (m k : Nat) (y : Int) (a : Option Value), P - k = m → k ≤ P → LBy x P Z y → Ev mX0_leastThinkable 1 42 [some (.ref 18), some (iv (sm x P)), some (iv y), some (iv (k : Int)), a] [] h (PI (fun y h' => h' = h ∧ LBy x P Z y)) := by
    intro m
    induction m using Nat.strongRecOn with
    | ind m ih =>
      intro k y a hm hk hy
      have yb := cb y hy
      have xk := hx k
      refine Ev.iload_n dX0_leastThinkable_42 (Eq.refl 43) rfl ?_
      refine Ev.aload_n dX0_leastThinkable_43 (Eq.refl 44) rfl ?_
      refine Ev.getI dX0_leastThinkable_44 (Eq.refl 47) fg_X0_43 rfl rfl ?_
      rw [h4]
      refine Ev.icmp_ge (tgt := 94) dX0_leastThinkable_47 (Eq.refl 50) (by decide) ⟨by omega, by omega⟩ ⟨by omega, by omega⟩ (fun c47 => ?_) (fun c47 => ?_)
      · refine Ev.iload_n dX0_leastThinkable_94 (Eq.refl 95) rfl ?_
        exact Ev.iret dX0_leastThinkable_95 rfl (⟨_, rfl, rfl, hy⟩)
      · have hk2 : k < P := by omega
        refine Ev.aload_n dX0_leastThinkable_50 (Eq.refl 51) rfl ?_
        refine Ev.getR dX0_leastThinkable_51 (Eq.refl 54) fg_X0_15 rfl rfl (rX0_1 hR) ?_
        refine Ev.iload_n dX0_leastThinkable_54 (Eq.refl 55) rfl ?_
        refine Ev.iaload dX0_leastThinkable_55 (Eq.refl 56) rfl rfl (by omega) (by decide) (by first | with_reducible exact Int.toNat_natCast _ | exact Eq.refl _) ?_
        rw [h20 k hk2]
        refine Ev.if_le (tgt := 94) dX0_leastThinkable_56 (Eq.refl 59) (by decide) ⟨by omega, by omega⟩ (fun c56 => ?_) (fun c56 => ?_)
        · refine Ev.iload_n dX0_leastThinkable_94 (Eq.refl 95) rfl ?_
          exact Ev.iret dX0_leastThinkable_95 rfl (⟨_, rfl, rfl, hy⟩)
        · have hp : 0 < x k := by omega
          obtain ⟨k1, k2, k3, k4⟩ := LBy.k hk2 hx (fun i hi => hso i k hi hk2) hp
          have kb := cb _ k4
          refine Ev.iconst dX0_leastThinkable_59 (Eq.refl 60) ?_
          refine Ev.aload_n dX0_leastThinkable_60 (Eq.refl 61) rfl ?_
          refine Ev.getI dX0_leastThinkable_61 (Eq.refl 64) fg_X0_33 rfl rfl ?_
          rw [h5]
          refine Ev.aload_n dX0_leastThinkable_64 (Eq.refl 65) rfl ?_
          refine Ev.getR dX0_leastThinkable_65 (Eq.refl 68) fg_X0_15 rfl rfl (rX0_1 hR) ?_
          refine Ev.iload_n dX0_leastThinkable_68 (Eq.refl 69) rfl ?_
          refine Ev.iaload dX0_leastThinkable_69 (Eq.refl 70) rfl rfl (by omega) (by decide) (by first | with_reducible exact Int.toNat_natCast _ | exact Eq.refl _) ?_
          rw [h20 k hk2]
          refine Ev.idiv dX0_leastThinkable_70 (Eq.refl 71) ⟨by omega, by omega⟩ ⟨by omega, by omega⟩ (by omega) ?_
          refine Ev.mmax dX0_leastThinkable_71 (Eq.refl 74) wm_X0_83 (by decide) (Nat.le_of_ble_eq_true rfl) ⟨by omega, by omega⟩ (by have : Z.tdiv (x k) = Z / x k := Int.tdiv_eq_ediv_of_nonneg (by omega); rw [this]; exact ⟨by omega, by omega⟩) ?_
          rw [k1]
          refine Ev.is4 dX0_leastThinkable_74 (Eq.refl 76) (by decide) rfl ?_
          refine Ev.iload_n dX0_leastThinkable_76 (Eq.refl 77) rfl ?_
          refine Ev.iload_n dX0_leastThinkable_77 (Eq.refl 78) rfl ?_
          refine Ev.iload dX0_leastThinkable_78 (Eq.refl 80) rfl ?_
          refine Ev.iadd dX0_leastThinkable_80 (Eq.refl 81) ?_
          refine Ev.iload dX0_leastThinkable_81 (Eq.refl 83) rfl ?_
          refine Ev.idiv dX0_leastThinkable_83 (Eq.refl 84) ⟨by omega, by omega⟩ ⟨by omega, by omega⟩ (by omega) ?_
          refine Ev.mmax dX0_leastThinkable_84 (Eq.refl 87) wm_X0_83 (by decide) (Nat.le_of_ble_eq_true rfl) ⟨by omega, by omega⟩ ⟨by omega, by omega⟩ ?_
          refine Ev.is2 dX0_leastThinkable_87 (Eq.refl 88) (by decide) rfl ?_
          refine Ev.ii3 dX0_leastThinkable_88 (Eq.refl 91) (by decide) rfl ?_
          refine Ev.goto' (pc' := 42) dX0_leastThinkable_91 (by decide) ?_
          exact ih _ (by omega) (k + 1) _ _ rfl (by omega) (hy.max k4)
  have l0 : LBy x P Z (if P = 0 then 0 else 1) := by
    refine ⟨by split <;> omega, fun t ht => ?_⟩
    by_cases p0 : P = 0
    · rw [if_pos p0]; omega
    · rw [if_neg p0]
      have := pk_one (by omega) ht
      omega
  have lc := LBy.c (P := P) (fun k => (hx k).1) (show 0 < Z by omega)
  have lcb := cb _ lc
  by_cases p0 : P = 0
  · rw [if_pos p0] at l0
    refine Ev.aload_n dX0_leastThinkable_0 (Eq.refl 1) rfl ?_
    refine Ev.getI dX0_leastThinkable_1 (Eq.refl 4) fg_X0_43 rfl rfl ?_
    rw [h4]
    refine Ev.if_ne (tgt := 11) dX0_leastThinkable_4 (Eq.refl 7) (by decide) ⟨by omega, by omega⟩ (fun c4 => ?_) (fun c4 => ?_)
    · omega
    · refine Ev.iconst dX0_leastThinkable_7 (Eq.refl 8) ?_
      refine Ev.goto' (pc' := 12) dX0_leastThinkable_8 (by decide) ?_
      refine Ev.is2 dX0_leastThinkable_12 (Eq.refl 13) (by decide) rfl ?_
      refine Ev.aload_n dX0_leastThinkable_13 (Eq.refl 14) rfl ?_
      refine Ev.getI dX0_leastThinkable_14 (Eq.refl 17) fg_X0_33 rfl rfl ?_
      rw [h5]
      refine Ev.if_gt (tgt := 22) dX0_leastThinkable_17 (Eq.refl 20) (by decide) ⟨by omega, by omega⟩ (fun c17 => ?_) (fun c17 => ?_)
      · refine Ev.iload_n dX0_leastThinkable_22 (Eq.refl 23) rfl ?_
        refine Ev.iload_n dX0_leastThinkable_23 (Eq.refl 24) rfl ?_
        refine Ev.aload_n dX0_leastThinkable_24 (Eq.refl 25) rfl ?_
        refine Ev.getI dX0_leastThinkable_25 (Eq.refl 28) fg_X0_33 rfl rfl ?_
        rw [h5]
        refine Ev.iadd dX0_leastThinkable_28 (Eq.refl 29) ?_
        refine Ev.iconst dX0_leastThinkable_29 (Eq.refl 30) ?_
        refine Ev.isub dX0_leastThinkable_30 (Eq.refl 31) ?_
        refine Ev.aload_n dX0_leastThinkable_31 (Eq.refl 32) rfl ?_
        refine Ev.getI dX0_leastThinkable_32 (Eq.refl 35) fg_X0_33 rfl rfl ?_
        rw [h5]
        refine Ev.idiv dX0_leastThinkable_35 (Eq.refl 36) ⟨by omega, by omega⟩ ⟨by omega, by omega⟩ (by omega) ?_
        refine Ev.mmax dX0_leastThinkable_36 (Eq.refl 39) wm_X0_83 (by decide) (Nat.le_of_ble_eq_true rfl) ⟨by omega, by omega⟩ ⟨by omega, by omega⟩ ?_
        refine Ev.is2 dX0_leastThinkable_39 (Eq.refl 40) (by decide) rfl ?_
        refine Ev.iconst dX0_leastThinkable_40 (Eq.refl 41) ?_
        refine Ev.is3 dX0_leastThinkable_41 (Eq.refl 42) (by decide) rfl ?_
        exact LOOP _ 0 _ _ rfl (by omega) (l0.max lc)
      · omega
  · rw [if_neg p0] at l0
    refine Ev.aload_n dX0_leastThinkable_0 (Eq.refl 1) rfl ?_
    refine Ev.getI dX0_leastThinkable_1 (Eq.refl 4) fg_X0_43 rfl rfl ?_
    rw [h4]
    refine Ev.if_ne (tgt := 11) dX0_leastThinkable_4 (Eq.refl 7) (by decide) ⟨by omega, by omega⟩ (fun c4 => ?_) (fun c4 => ?_)
    · refine Ev.iconst dX0_leastThinkable_11 (Eq.refl 12) ?_
      refine Ev.is2 dX0_leastThinkable_12 (Eq.refl 13) (by decide) rfl ?_
      refine Ev.aload_n dX0_leastThinkable_13 (Eq.refl 14) rfl ?_
      refine Ev.getI dX0_leastThinkable_14 (Eq.refl 17) fg_X0_33 rfl rfl ?_
      rw [h5]
      refine Ev.if_gt (tgt := 22) dX0_leastThinkable_17 (Eq.refl 20) (by decide) ⟨by omega, by omega⟩ (fun c17 => ?_) (fun c17 => ?_)
      · refine Ev.iload_n dX0_leastThinkable_22 (Eq.refl 23) rfl ?_
        refine Ev.iload_n dX0_leastThinkable_23 (Eq.refl 24) rfl ?_
        refine Ev.aload_n dX0_leastThinkable_24 (Eq.refl 25) rfl ?_
        refine Ev.getI dX0_leastThinkable_25 (Eq.refl 28) fg_X0_33 rfl rfl ?_
        rw [h5]
        refine Ev.iadd dX0_leastThinkable_28 (Eq.refl 29) ?_
        refine Ev.iconst dX0_leastThinkable_29 (Eq.refl 30) ?_
        refine Ev.isub dX0_leastThinkable_30 (Eq.refl 31) ?_
        refine Ev.aload_n dX0_leastThinkable_31 (Eq.refl 32) rfl ?_
        refine Ev.getI dX0_leastThinkable_32 (Eq.refl 35) fg_X0_33 rfl rfl ?_
        rw [h5]
        refine Ev.idiv dX0_leastThinkable_35 (Eq.refl 36) ⟨by omega, by omega⟩ ⟨by omega, by omega⟩ (by omega) ?_
        refine Ev.mmax dX0_leastThinkable_36 (Eq.refl 39) wm_X0_83 (by decide) (Nat.le_of_ble_eq_true rfl) ⟨by omega, by omega⟩ ⟨by omega, by omega⟩ ?_
        refine Ev.is2 dX0_leastThinkable_39 (Eq.refl 40) (by decide) rfl ?_
        refine Ev.iconst dX0_leastThinkable_40 (Eq.refl 41) ?_
        refine Ev.is3 dX0_leastThinkable_41 (Eq.refl 42) (by decide) rfl ?_
        exact LOOP _ 0 _ _ rfl (by omega) (l0.max lc)
      · omega
    · omega
theorem c_fewest {h : Hp} {v : Nv} {P : Nat} {o : Nat → Nat} (hR : ROk h.2.2) (hv : VOk v) (ha : aH v (hgV v)) (hfit : fitAll v) (ho : isOrd v P o ∧ CutOk h v P o) : Ev mX0_fewest 16 0 (entL [.ref 18] 4) [] h (PI (fun y h' => Fr (fun i => i = 18 ∨ i = 23) h h' ∧ isMin v (szV v) y)) := by
  show Ev mX0_fewest 16 0 [some (.ref 18), none, none, none] [] h _
  obtain ⟨ho, hP, h4, h5, h6, h21, h22, h20⟩ := ho
  have bR := hv.2.2.2.2.2.2.2
  have zb : 100 ≤ Zr v ∧ Zr v ≤ 9900 := ⟨by show (100 : Int) ≤ 100 * vR v; omega, by show 100 * vR v ≤ 9900; omega⟩
  have pk := fun t => pkV_cp (t := t) hv ha ho
  have hx : ∀ k, 0 ≤ xs v P o k ∧ xs v P o k ≤ Zr v := fun k => ⟨xs_0 hv ha ho k, by
    unfold xs; split
    · next q => exact hfit _ (ho.1 k q).1 (ho.1 k q).2
    · omega⟩
  have hso : ∀ i k, i ≤ k → k < P → xs v P o k ≤ xs v P o i := fun i k h1 h2 => xs_sort ho h2 h1
  have hu := ff_cp (Z := Zr v) (x := xs v P o) hP hx
  have inv := ff_inv (Z := Zr v) (x := xs v P o) P hP (fun i _ => hx i)
  generalize xs v P o = x at *
  generalize hZ : Zr v = Z at *
  generalize hff : ff Z x P = F at *
  have ul : F.2 ≤ 14 := by omega
  have sl : sm (h.1 21) F.2 = F.2 * Z - sm x P := by rw [sm_congr F.2 h21]; exact inv.2.2.2
  have sx := sm_rng (f := x) (Z := Z) P (fun i _ => hx i)
  have pz := tZ hP (show 0 ≤ Z by omega) zb.2
  have uz := tZ ul (show 0 ≤ Z by omega) zb.2
  have hpk : ∀ t, pkV v (szV v) t ↔ cp t x P P (fun _ => Z) := fun t => by rw [← hZ]; exact pk t
  have OUT : ∀ (m t : Nat) (g : Hp) (a : Option Value), F.2 - t = m → t ≤ F.2 → Fr (fun i => i = 18 ∨ i = 23) h g → g.1 18 4 = (P : Int) → g.1 18 5 = Z → g.1 18 6 = (F.2 : Int) → (∀ q, q < t → ¬ cp q x P P (fun _ => Z)) → Ev mX0_fewest 16 21 [some (.ref 18), some (iv (sm x P)), some (iv (t : Int)), a] [] g (PI (fun y h' => Fr (fun i => i = 18 ∨ i = 23) h h' ∧ isMin v (szV v) y)) := by
    intro m
    induction m using Nat.strongRecOn with
    | ind m ih =>
      intro t g a hm ht hF g4 g5 g6 hno
      have IN : t < F.2 → ∀ (w r : Nat) (g : Hp), t - r = w → r ≤ t → Fr (fun i => i = 18 ∨ i = 23) h g → g.1 18 4 = (P : Int) → g.1 18 5 = Z → g.1 18 6 = (F.2 : Int) → (∀ i, i < r → g.1 23 i = Z) → Ev mX0_fewest 16 31 [some (.ref 18), some (iv (sm x P)), some (iv (t : Int)), some (iv (r : Int))] [] g (PI (fun y h' => Fr (fun i => i = 18 ∨ i = 23) h h' ∧ isMin v (szV v) y)) := by
        intro htu w
        induction w using Nat.strongRecOn with
        | ind w iw =>
          intro r g hw hr hF g4 g5 g6 g23
          have hR := hF.R hR
          by_cases hr2 : r < t
          · have hr3 := hr2
            refine Ev.iload_n dX0_fewest_31 (Eq.refl 32) rfl ?_
            refine Ev.iload_n dX0_fewest_32 (Eq.refl 33) rfl ?_
            refine Ev.icmp_ge (tgt := 52) dX0_fewest_33 (Eq.refl 36) (by decide) ⟨by omega, by omega⟩ ⟨by omega, by omega⟩ (fun c33 => ?_) (fun c33 => ?_)
            · omega
            · refine Ev.aload_n dX0_fewest_36 (Eq.refl 37) rfl ?_
              refine Ev.getR dX0_fewest_37 (Eq.refl 40) fg_X0_24 rfl rfl (rX0_7 hR) ?_
              refine Ev.iload_n dX0_fewest_40 (Eq.refl 41) rfl ?_
              refine Ev.aload_n dX0_fewest_41 (Eq.refl 42) rfl ?_
              refine Ev.getI dX0_fewest_42 (Eq.refl 45) fg_X0_33 rfl rfl ?_
              rw [g5]
              refine Ev.iastore dX0_fewest_45 (Eq.refl 46) rfl rfl (by omega) (by decide) (by first | with_reducible exact Int.toNat_natCast _ | exact Eq.refl _) ?_
              refine Ev.ii3 dX0_fewest_46 (Eq.refl 49) (by decide) rfl ?_
              refine Ev.goto' (pc' := 31) dX0_fewest_49 (by decide) ?_
              exact iw _ (by omega) (r + 1) _ rfl (by omega) (hF.wI (Or.inr rfl)) (by rw [hI_ni (by omega)]; exact g4) (by rw [hI_ni (by omega)]; exact g5) (by rw [hI_ni (by omega)]; exact g6) (fun i hi => by rw [hI_rd]; exact (if e : i = r then by rw [if_pos ⟨rfl, e⟩] else by rw [if_neg (fun z => e z.2)]; exact g23 i (by omega)))
          · have e : r = t := by omega
            subst e
            have hF2 : Fr (fun i => i = 18 ∨ i = 23) h (hI (hI g 18 8 (r : Int)) 18 9 ((r : Int) * Z - sm x P)) := (hF.wI (Or.inl rfl)).wI (Or.inl rfl)
            have w23 : ∀ i, (hI (hI g 18 8 (r : Int)) 18 9 ((r : Int) * Z - sm x P)).1 23 i = g.1 23 i := fun i => by rw [hI_ni (by omega), hI_ni (by omega)]
            have hcs : CpS (hI (hI g 18 8 (r : Int)) 18 9 ((r : Int) * Z - sm x P)) r P x Z := ⟨by omega, hP, by rw [hI_nk (by omega), hI_nk (by omega)]; exact g4, by rw [hI_nk (by omega), hI_eq], hI_eq, fun k hk => by rw [hI_ni (by omega), hI_ni (by omega), hF.1 20 (by omega)]; exact h20 k hk, hx, hso, by omega, by omega, fun i hi => by rw [w23, g23 i hi]; omega⟩
            have hsum : sm ((hI (hI g 18 8 (r : Int)) 18 9 ((r : Int) * Z - sm x P)).1 23) r = r * Z - sm x 0 := by
              rw [sm_congr (g := fun _ => Z) r (fun i hi => by rw [w23]; exact g23 i hi), sm_c, Int.mul_comm]
              show _ = _ - 0
              omega
            have hR2 := hF2.R (by assumption)
            have hcall := c_canPlace P _ 0 (by omega) (by omega) hR2 hcs hsum
            have ecp : cp r x P P ((hI (hI g 18 8 (r : Int)) 18 9 ((r : Int) * Z - sm x P)).1 23) ↔ cp r x P P (fun _ => Z) := ⟨fun z => cp_c P _ _ (fun i hi => by rw [w23]; exact g23 i hi) z, fun z => cp_c P _ _ (fun i hi => by rw [w23]; exact (g23 i hi).symm) z⟩
            refine Ev.iload_n dX0_fewest_31 (Eq.refl 32) rfl ?_
            refine Ev.iload_n dX0_fewest_32 (Eq.refl 33) rfl ?_
            refine Ev.icmp_ge (tgt := 52) dX0_fewest_33 (Eq.refl 36) (by decide) ⟨by omega, by omega⟩ ⟨by omega, by omega⟩ (fun c33 => ?_) (fun c33 => ?_)
            · refine Ev.aload_n dX0_fewest_52 (Eq.refl 53) rfl ?_
              refine Ev.iload_n dX0_fewest_53 (Eq.refl 54) rfl ?_
              refine Ev.putI dX0_fewest_54 (Eq.refl 57) fp_X0_73 rfl rfl (Or.inl rfl) ?_
              refine Ev.aload_n dX0_fewest_57 (Eq.refl 58) rfl ?_
              refine Ev.iload_n dX0_fewest_58 (Eq.refl 59) rfl ?_
              refine Ev.aload_n dX0_fewest_59 (Eq.refl 60) rfl ?_
              refine Ev.getI dX0_fewest_60 (Eq.refl 63) fg_X0_33 rfl rfl ?_
              rw [hI_nk (by omega), g5]
              refine Ev.imul dX0_fewest_63 (Eq.refl 64) ?_
              refine Ev.iload_n dX0_fewest_64 (Eq.refl 65) rfl ?_
              refine Ev.isub dX0_fewest_65 (Eq.refl 66) ?_
              refine Ev.putI dX0_fewest_66 (Eq.refl 69) fp_X0_76 rfl rfl (Or.inl rfl) ?_
              refine Ev.aload_n dX0_fewest_69 (Eq.refl 70) rfl ?_
              refine Ev.iconst dX0_fewest_70 (Eq.refl 71) ?_
              refine Ev.cs2E dX0_fewest_71 (Eq.refl 74) cw_X0_79 (Nat.le_of_ble_eq_true rfl) (by omega) rfl (Nat.le_of_ble_eq_true rfl) (hcall) ?_
              refine Ev.if_eqB (tgt := 79) dX0_fewest_74 (Eq.refl 77) (by decide) (fun c74 => ?_) (fun c74 => ?_)
              · refine Ev.ii2 dX0_fewest_79 (Eq.refl 82) (by decide) rfl ?_
                refine Ev.goto' (pc' := 21) dX0_fewest_82 (by decide) ?_
                exact ih _ (by omega) (r + 1) _ _ rfl (by omega) hF2 (by rw [hI_nk (by omega), hI_nk (by omega)]; exact g4) (by rw [hI_nk (by omega), hI_nk (by omega)]; exact g5) (by rw [hI_nk (by omega), hI_nk (by omega)]; exact g6) (fun q hq => if e : q = r then by rw [e]; exact fun z => c74 (ecp.mpr z) else hno q (by omega))
              · refine Ev.iload_n dX0_fewest_77 (Eq.refl 78) rfl ?_
                exact Ev.iret dX0_fewest_78 rfl (⟨_, rfl, hF2, r, rfl, (hpk r).mpr (ecp.mp c74), fun q hq => fun z => hno q hq ((hpk q).mp z)⟩)
            · omega
      refine Ev.iload_n dX0_fewest_21 (Eq.refl 22) rfl ?_
      refine Ev.aload_n dX0_fewest_22 (Eq.refl 23) rfl ?_
      refine Ev.getI dX0_fewest_23 (Eq.refl 26) fg_X0_36 rfl rfl ?_
      rw [g6]
      refine Ev.icmp_ge (tgt := 85) dX0_fewest_26 (Eq.refl 29) (by decide) ⟨by omega, by omega⟩ ⟨by omega, by omega⟩ (fun c26 => ?_) (fun c26 => ?_)
      · have e : t = F.2 := by omega
        refine Ev.aload_n dX0_fewest_85 (Eq.refl 86) rfl ?_
        refine Ev.getI dX0_fewest_86 (Eq.refl 89) fg_X0_36 rfl rfl ?_
        rw [g6]
        exact Ev.iret dX0_fewest_89 rfl (⟨_, rfl, hF, F.2, rfl, (hpk F.2).mpr hu, fun q hq => fun z => hno q (by omega) ((hpk q).mp z)⟩)
      · refine Ev.iconst dX0_fewest_29 (Eq.refl 30) ?_
        refine Ev.is3 dX0_fewest_30 (Eq.refl 31) (by decide) rfl ?_
        exact IN (by omega) _ 0 _ rfl (by omega) hF g4 g5 g6 (fun i hi => by omega)
  refine Ev.aload_n dX0_fewest_0 (Eq.refl 1) rfl ?_
  refine Ev.getI dX0_fewest_1 (Eq.refl 4) fg_X0_36 rfl rfl ?_
  rw [h6]
  refine Ev.aload_n dX0_fewest_4 (Eq.refl 5) rfl ?_
  refine Ev.getI dX0_fewest_5 (Eq.refl 8) fg_X0_33 rfl rfl ?_
  rw [h5]
  refine Ev.imul dX0_fewest_8 (Eq.refl 9) ?_
  refine Ev.aload_n dX0_fewest_9 (Eq.refl 10) rfl ?_
  refine Ev.cv0E dX0_fewest_10 (Eq.refl 13) cw_X0_66 (Nat.le_of_ble_eq_true rfl) (by decide) rfl rfl rfl (Nat.le_of_ble_eq_true rfl) (c_leftOver hR ul h6) ?_
  refine Ev.isub dX0_fewest_13 (Eq.refl 14) ?_
  rw [show (F.2 : Int) * Z - sm (h.1 21) F.2 = sm x P by rw [sl]; omega]
  refine Ev.is1 dX0_fewest_14 (Eq.refl 15) (by decide) rfl ?_
  refine Ev.aload_n dX0_fewest_15 (Eq.refl 16) rfl ?_
  refine Ev.iload_n dX0_fewest_16 (Eq.refl 17) rfl ?_
  refine Ev.cv1I dX0_fewest_17 (Eq.refl 20) cw_X0_70 (Nat.le_of_ble_eq_true rfl) (by decide) rfl rfl rfl (Nat.le_of_ble_eq_true rfl) (c_least hR hP h4 h5 h20 hx hso (by omega) ⟨ul, hu⟩) (fun x17 g17 hp17 => ?_)
  obtain ⟨rfl, lb⟩ := hp17
  have yu := lb.2 F.2 hu
  obtain ⟨c, rfl⟩ := Int.eq_ofNat_of_zero_le lb.1
  refine Ev.is2 dX0_fewest_20 (Eq.refl 21) (by decide) rfl ?_
  exact OUT _ c _ _ rfl (by omega) Fr.rf h4 h5 h6 (fun q hq z => by have := lb.2 q z; omega)
