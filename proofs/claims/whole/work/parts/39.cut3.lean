/-! Cutter: tooMuchIsLost, isLikeOneAhead, canPlaceFrom -/
/-- what stays while pieces are placed -/
def CpS (h : Hp) (t P : Nat) (x : Nat → Int) (Z : Int) : Prop := t ≤ 14 ∧ P ≤ 14 ∧ h.1 18 4 = (P : Int) ∧ h.1 18 8 = (t : Int) ∧ h.1 18 9 = t * Z - sm x P ∧ (∀ k, k < P → h.1 20 k = x k) ∧ (∀ k, 0 ≤ x k ∧ x k ≤ Z) ∧ (∀ i k, i ≤ k → k < P → x k ≤ x i) ∧ 0 ≤ Z ∧ Z ≤ 9900 ∧ ∀ r, r < t → 0 ≤ h.1 23 r ∧ h.1 23 r ≤ Z
def shrt (x : Nat → Int) (P : Nat) : Int := if 0 < P then x (P - 1) else 0
theorem sm_rng {f : Nat → Int} {Z : Int} : ∀ n : Nat, (∀ i, i < n → 0 ≤ f i ∧ f i ≤ Z) → 0 ≤ sm f n ∧ sm f n ≤ n * Z
  | 0, _ => by simp [sm]
  | n + 1, h => by
    have a := sm_rng n (fun i hi => h i (by omega))
    have b := h n (by omega)
    simp only [sm]
    push_cast
    rw [Int.add_mul]; omega
theorem tZ {t : Nat} {Z : Int} (ht : t ≤ 14) (h0 : 0 ≤ Z) (h1 : Z ≤ 9900) : 0 ≤ (t : Int) * Z ∧ (t : Int) * Z ≤ 138600 := ⟨Int.mul_nonneg (by omega) h0, Int.le_trans (Int.mul_le_mul (show (t : Int) ≤ 14 by omega) h1 h0 (by omega)) (by decide)⟩
theorem c_tooMuch {h : Hp} {t P : Nat} {x : Nat → Int} {Z : Int} (hR : ROk h.2.2) (hc : CpS h t P x Z) : Ev mX0_tooMuchIsLost 0 0 (entL [.ref 18] 4) [] h (PE (bi ((t : Int) * Z - sm x P < lostS t (shrt x P) (h.1 23))) h) := by
  show Ev mX0_tooMuchIsLost 0 0 [some (.ref 18), none, none, none] [] h _
  obtain ⟨ht, hP, h4, h8, h9, h20, hx, hso, hZ0, hZ, h23⟩ := hc
  have sx := sm_rng (f := x) (Z := Z) P (fun i _ => hx i)
  have pz := tZ hP hZ0 hZ
  have tz := tZ ht hZ0 hZ
  have sh : 0 ≤ shrt x P ∧ shrt x P ≤ 9900 := by
    unfold shrt
    have := hx (P - 1)
    split <;> omega
  have lr : ∀ r, r ≤ t → 0 ≤ lostS r (shrt x P) (h.1 23) ∧ lostS r (shrt x P) (h.1 23) ≤ r * Z := fun r hr => sm_rng r (fun i hi => by have := h23 i (by omega); split <;> omega)
  have LOOP : ∀ (m r : Nat), t - r = m → r ≤ t → Ev mX0_tooMuchIsLost 0 27 [some (.ref 18), some (iv (shrt x P)), some (iv (lostS r (shrt x P) (h.1 23))), some (iv (r : Int))] [] h (PE (bi ((t : Int) * Z - sm x P < lostS t (shrt x P) (h.1 23))) h) := by
    intro m
    induction m using Nat.strongRecOn with
    | ind m ih =>
      intro r hm hr
      have lr2 := lr r hr
      by_cases hr2 : r < t
      · have hb := h23 r hr2
        refine Ev.iload_n dX0_tooMuchIsLost_27 (Eq.refl 28) rfl ?_
        refine Ev.aload_n dX0_tooMuchIsLost_28 (Eq.refl 29) rfl ?_
        refine Ev.getI dX0_tooMuchIsLost_29 (Eq.refl 32) fg_X0_73 rfl rfl ?_
        rw [h8]
        refine Ev.icmp_ge (tgt := 60) dX0_tooMuchIsLost_32 (Eq.refl 35) (by decide) ⟨by omega, by omega⟩ ⟨by omega, by omega⟩ (fun c32 => ?_) (fun c32 => ?_)
        · omega
        · refine Ev.aload_n dX0_tooMuchIsLost_35 (Eq.refl 36) rfl ?_
          refine Ev.getR dX0_tooMuchIsLost_36 (Eq.refl 39) fg_X0_24 rfl rfl (rX0_7 hR) ?_
          refine Ev.iload_n dX0_tooMuchIsLost_39 (Eq.refl 40) rfl ?_
          refine Ev.iaload dX0_tooMuchIsLost_40 (Eq.refl 41) rfl rfl (by omega) (by decide) (by first | with_reducible exact Int.toNat_natCast _ | exact Eq.refl _) ?_
          refine Ev.iload_n dX0_tooMuchIsLost_41 (Eq.refl 42) rfl ?_
          refine Ev.icmp_ge (tgt := 54) dX0_tooMuchIsLost_42 (Eq.refl 45) (by decide) ⟨by omega, by omega⟩ ⟨by omega, by omega⟩ (fun c42 => ?_) (fun c42 => ?_)
          · have e : lostS (r + 1) (shrt x P) (h.1 23) = lostS r (shrt x P) (h.1 23) := by show _ + (if h.1 23 r < shrt x P then h.1 23 r else 0) = _; rw [if_neg (by omega), Int.add_zero]; rfl
            refine Ev.ii3 dX0_tooMuchIsLost_54 (Eq.refl 57) (by decide) rfl ?_
            refine Ev.goto' (pc' := 27) dX0_tooMuchIsLost_57 (by decide) ?_
            have L := ih _ (by omega) (r + 1) rfl (by omega)
            rw [e] at L
            exact L
          · have e : lostS (r + 1) (shrt x P) (h.1 23) = lostS r (shrt x P) (h.1 23) + h.1 23 r := by show _ + (if h.1 23 r < shrt x P then h.1 23 r else 0) = _; rw [if_pos (by omega)]; rfl
            refine Ev.iload_n dX0_tooMuchIsLost_45 (Eq.refl 46) rfl ?_
            refine Ev.aload_n dX0_tooMuchIsLost_46 (Eq.refl 47) rfl ?_
            refine Ev.getR dX0_tooMuchIsLost_47 (Eq.refl 50) fg_X0_24 rfl rfl (rX0_7 hR) ?_
            refine Ev.iload_n dX0_tooMuchIsLost_50 (Eq.refl 51) rfl ?_
            refine Ev.iaload dX0_tooMuchIsLost_51 (Eq.refl 52) rfl rfl (by omega) (by decide) (by first | with_reducible exact Int.toNat_natCast _ | exact Eq.refl _) ?_
            refine Ev.iadd dX0_tooMuchIsLost_52 (Eq.refl 53) ?_
            refine Ev.is2 dX0_tooMuchIsLost_53 (Eq.refl 54) (by decide) rfl ?_
            refine Ev.ii3 dX0_tooMuchIsLost_54 (Eq.refl 57) (by decide) rfl ?_
            refine Ev.goto' (pc' := 27) dX0_tooMuchIsLost_57 (by decide) ?_
            have L := ih _ (by omega) (r + 1) rfl (by omega)
            rw [e] at L
            exact L
      · have e : r = t := by omega
        subst e
        refine Ev.iload_n dX0_tooMuchIsLost_27 (Eq.refl 28) rfl ?_
        refine Ev.aload_n dX0_tooMuchIsLost_28 (Eq.refl 29) rfl ?_
        refine Ev.getI dX0_tooMuchIsLost_29 (Eq.refl 32) fg_X0_73 rfl rfl ?_
        rw [h8]
        refine Ev.icmp_ge (tgt := 60) dX0_tooMuchIsLost_32 (Eq.refl 35) (by decide) ⟨by omega, by omega⟩ ⟨by omega, by omega⟩ (fun c32 => ?_) (fun c32 => ?_)
        · refine Ev.iload_n dX0_tooMuchIsLost_60 (Eq.refl 61) rfl ?_
          refine Ev.aload_n dX0_tooMuchIsLost_61 (Eq.refl 62) rfl ?_
          refine Ev.getI dX0_tooMuchIsLost_62 (Eq.refl 65) fg_X0_76 rfl rfl ?_
          rw [h9]
          refine Ev.icmp_le (tgt := 72) dX0_tooMuchIsLost_65 (Eq.refl 68) (by decide) ⟨by omega, by omega⟩ ⟨by omega, by omega⟩ (fun c65 => ?_) (fun c65 => ?_)
          · refine Ev.iconst dX0_tooMuchIsLost_72 (Eq.refl 73) ?_
            exact Ev.zret dX0_tooMuchIsLost_73 rfl (by first | exact bi01 _ | exact Or.inl rfl | exact Or.inr rfl | omega) (PE.of (by first | exact (bi_t (by omega)).symm | exact (bi_f (by omega)).symm))
          · refine Ev.iconst dX0_tooMuchIsLost_68 (Eq.refl 69) ?_
            refine Ev.goto' (pc' := 73) dX0_tooMuchIsLost_69 (by decide) ?_
            exact Ev.zret dX0_tooMuchIsLost_73 rfl (by first | exact bi01 _ | exact Or.inl rfl | exact Or.inr rfl | omega) (PE.of (by first | exact (bi_t (by omega)).symm | exact (bi_f (by omega)).symm))
        · omega
  by_cases p0 : 0 < P
  · have e1 : (P : Int) - 1 = ((P - 1 : Nat) : Int) := by omega
    have es : h.1 20 (P - 1) = shrt x P := by rw [h20 _ (by omega)]; exact (if_pos p0).symm
    refine Ev.aload_n dX0_tooMuchIsLost_0 (Eq.refl 1) rfl ?_
    refine Ev.getI dX0_tooMuchIsLost_1 (Eq.refl 4) fg_X0_43 rfl rfl ?_
    rw [h4]
    refine Ev.if_le (tgt := 21) dX0_tooMuchIsLost_4 (Eq.refl 7) (by decide) ⟨by omega, by omega⟩ (fun c4 => ?_) (fun c4 => ?_)
    · omega
    · refine Ev.aload_n dX0_tooMuchIsLost_7 (Eq.refl 8) rfl ?_
      refine Ev.getR dX0_tooMuchIsLost_8 (Eq.refl 11) fg_X0_15 rfl rfl (rX0_1 hR) ?_
      refine Ev.aload_n dX0_tooMuchIsLost_11 (Eq.refl 12) rfl ?_
      refine Ev.getI dX0_tooMuchIsLost_12 (Eq.refl 15) fg_X0_43 rfl rfl ?_
      rw [h4]
      refine Ev.iconst dX0_tooMuchIsLost_15 (Eq.refl 16) ?_
      refine Ev.isub dX0_tooMuchIsLost_16 (Eq.refl 17) ?_
      rw [e1]
      refine Ev.iaload dX0_tooMuchIsLost_17 (Eq.refl 18) rfl rfl (by omega) (by decide) (by first | with_reducible exact Int.toNat_natCast _ | exact Eq.refl _) ?_
      rw [es]
      refine Ev.goto' (pc' := 22) dX0_tooMuchIsLost_18 (by decide) ?_
      refine Ev.is1 dX0_tooMuchIsLost_22 (Eq.refl 23) (by decide) rfl ?_
      refine Ev.iconst dX0_tooMuchIsLost_23 (Eq.refl 24) ?_
      refine Ev.is2 dX0_tooMuchIsLost_24 (Eq.refl 25) (by decide) rfl ?_
      refine Ev.iconst dX0_tooMuchIsLost_25 (Eq.refl 26) ?_
      refine Ev.is3 dX0_tooMuchIsLost_26 (Eq.refl 27) (by decide) rfl ?_
      exact LOOP _ 0 rfl (by omega)
  · have es : (0 : Int) = shrt x P := (if_neg p0).symm
    refine Ev.aload_n dX0_tooMuchIsLost_0 (Eq.refl 1) rfl ?_
    refine Ev.getI dX0_tooMuchIsLost_1 (Eq.refl 4) fg_X0_43 rfl rfl ?_
    rw [h4]
    refine Ev.if_le (tgt := 21) dX0_tooMuchIsLost_4 (Eq.refl 7) (by decide) ⟨by omega, by omega⟩ (fun c4 => ?_) (fun c4 => ?_)
    · refine Ev.iconst dX0_tooMuchIsLost_21 (Eq.refl 22) ?_
      refine Ev.is1 dX0_tooMuchIsLost_22 (Eq.refl 23) (by decide) rfl ?_
      refine Ev.iconst dX0_tooMuchIsLost_23 (Eq.refl 24) ?_
      refine Ev.is2 dX0_tooMuchIsLost_24 (Eq.refl 25) (by decide) rfl ?_
      refine Ev.iconst dX0_tooMuchIsLost_25 (Eq.refl 26) ?_
      refine Ev.is3 dX0_tooMuchIsLost_26 (Eq.refl 27) (by decide) rfl ?_
      have L := LOOP _ 0 rfl (by omega)
      rw [← es] at L ⊢
      exact L
    · omega
theorem c_isLike {h : Hp} {t P r : Nat} {x : Nat → Int} {Z : Int} (hR : ROk h.2.2) (hc : CpS h t P x Z) (hr : r < t) : Ev mX0_isLikeOneAhead 0 0 (entL [.ref 18, iv (r : Int)] 3) [] h (PE (bi (∃ a, a < r ∧ h.1 23 a = h.1 23 r)) h) := by
  show Ev mX0_isLikeOneAhead 0 0 [some (.ref 18), some (iv (r : Int)), none] [] h _
  obtain ⟨ht, hP, h4, h8, h9, h20, hx, hso, hZ0, hZ, h23⟩ := hc
  have br := h23 r hr
  have LOOP : ∀ (m a : Nat), r - a = m → a ≤ r → (∀ i, i < a → h.1 23 i ≠ h.1 23 r) → Ev mX0_isLikeOneAhead 0 2 [some (.ref 18), some (iv (r : Int)), some (iv (a : Int))] [] h (PE (bi (∃ a, a < r ∧ h.1 23 a = h.1 23 r)) h) := by
    intro m
    induction m using Nat.strongRecOn with
    | ind m ih =>
      intro a hm ha hx2
      have ba := fun (l : a < r) => h23 a (by omega)
      refine Ev.iload_n dX0_isLikeOneAhead_2 (Eq.refl 3) rfl ?_
      refine Ev.iload_n dX0_isLikeOneAhead_3 (Eq.refl 4) rfl ?_
      refine Ev.icmp_ge (tgt := 30) dX0_isLikeOneAhead_4 (Eq.refl 7) (by decide) ⟨by omega, by omega⟩ ⟨by omega, by omega⟩ (fun c4 => ?_) (fun c4 => ?_)
      · have e : a = r := by omega
        refine Ev.iconst dX0_isLikeOneAhead_30 (Eq.refl 31) ?_
        exact Ev.zret dX0_isLikeOneAhead_31 rfl (by first | exact bi01 _ | exact Or.inl rfl | exact Or.inr rfl | omega) (PE.of (bi_f (fun ⟨i, h1, h2⟩ => hx2 i (by omega) h2)).symm)
      · have l : a < r := by omega
        have bb := ba l
        refine Ev.aload_n dX0_isLikeOneAhead_7 (Eq.refl 8) rfl ?_
        refine Ev.getR dX0_isLikeOneAhead_8 (Eq.refl 11) fg_X0_24 rfl rfl (rX0_7 hR) ?_
        refine Ev.iload_n dX0_isLikeOneAhead_11 (Eq.refl 12) rfl ?_
        refine Ev.iaload dX0_isLikeOneAhead_12 (Eq.refl 13) rfl rfl (by omega) (by decide) (by first | with_reducible exact Int.toNat_natCast _ | exact Eq.refl _) ?_
        refine Ev.aload_n dX0_isLikeOneAhead_13 (Eq.refl 14) rfl ?_
        refine Ev.getR dX0_isLikeOneAhead_14 (Eq.refl 17) fg_X0_24 rfl rfl (rX0_7 hR) ?_
        refine Ev.iload_n dX0_isLikeOneAhead_17 (Eq.refl 18) rfl ?_
        refine Ev.iaload dX0_isLikeOneAhead_18 (Eq.refl 19) rfl rfl (by omega) (by decide) (by first | with_reducible exact Int.toNat_natCast _ | exact Eq.refl _) ?_
        refine Ev.icmp_ne (tgt := 24) dX0_isLikeOneAhead_19 (Eq.refl 22) (by decide) ⟨by omega, by omega⟩ ⟨by omega, by omega⟩ (fun c19 => ?_) (fun c19 => ?_)
        · refine Ev.ii2 dX0_isLikeOneAhead_24 (Eq.refl 27) (by decide) rfl ?_
          refine Ev.goto' (pc' := 2) dX0_isLikeOneAhead_27 (by decide) ?_
          exact ih _ (by omega) (a + 1) rfl (by omega) (fun i hi => if e : i = a then by rw [e]; exact c19 else hx2 i (by omega))
        · refine Ev.iconst dX0_isLikeOneAhead_22 (Eq.refl 23) ?_
          exact Ev.zret dX0_isLikeOneAhead_23 rfl (by first | exact bi01 _ | exact Or.inl rfl | exact Or.inr rfl | omega) (PE.of (bi_t ⟨a, l, c19⟩).symm)
  refine Ev.iconst dX0_isLikeOneAhead_0 (Eq.refl 1) ?_
  refine Ev.is2 dX0_isLikeOneAhead_1 (Eq.refl 2) (by decide) rfl ?_
  exact LOOP _ 0 rfl (by omega) (fun i hi => by omega)
section CPW
variable {t P : Nat} {x : Nat → Int}
theorem cp_exact' {a b m : Nat} {L : Nat → Int} {y : Int} (ha : a < t) (hb : b < t) (hL : ∀ i, i < t → 0 ≤ L i) (hx : ∀ k, 0 ≤ x k) (e : L a = y) (h2 : y ≤ L b) (h : cp t x P m (up L b (L b - y))) : cp t x P m (up L a (L a - y)) := by
  have h1 := cp_exact (t := t) (P := P) (x := x) (m := m) (a := a) (b := b) (L := fun i => if i < t then L i else 0) (y := y) ha hb (fun i => by show 0 ≤ (if i < t then L i else 0); split; exact hL i (by assumption); exact Int.le_refl _) hx (by show (if a < t then L a else 0) = y; rw [if_pos ha]; exact e) (by show y ≤ (if b < t then L b else 0); rw [if_pos hb]; exact h2) (cp_c m _ _ (fun r hr => by unfold up; simp only [if_pos hb, if_pos hr]) h)
  exact cp_c m _ _ (fun r hr => by unfold up; simp only [if_pos ha, if_pos hr]) h1
theorem cp_lost' {sh : Int} {m : Nat} {L : Nat → Int} (h0 : 0 ≤ sh) (hm : m ≤ P) (hL : ∀ i, i < t → 0 ≤ L i) (hx : ∀ k, k < P → sh ≤ x k) (h : cp t x P m L) : lostS t sh L + (sm x P - sm x (P - m)) ≤ sm L t := by
  have h1 := cp_lost (t := t) (P := P) (x := x) h0 m (fun i => if i < t then L i else 0) hm (fun i => by show 0 ≤ (if i < t then L i else 0); split; exact hL i (by assumption); exact Int.le_refl _) hx (cp_c m _ _ (fun r hr => (if_pos hr).symm) h)
  rw [sm_congr (g := L) t (fun i hi => if_pos hi)] at h1
  rw [show lostS t sh (fun i => if i < t then L i else 0) = lostS t sh L from sm_congr t (fun i hi => by simp only [if_pos hi])] at h1
  exact h1
end CPW
theorem hI_up {h : Hp} {i r : Nat} {y : Int} : (hI h i r y).1 i = up (h.1 i) r y := funext fun k => by
  rw [hI_rd]; unfold up
  by_cases e : k = r
  · rw [if_pos ⟨rfl, e⟩, if_pos e]
  · rw [if_neg (fun z => e z.2), if_neg e]
theorem hI_back {h : Hp} {i r : Nat} {y : Int} : hI (hI h i r (h.1 i r - y)) i r (h.1 i r - y + y) = h := hp_ext (fun a b => by
  rw [hI_rd, hI_rd]
  by_cases e : a = i ∧ b = r
  · rw [if_pos e, e.1, e.2]; omega
  · rw [if_neg e, if_neg e]) (fun _ _ => rfl) rfl
theorem CpS_w {h : Hp} {t P r : Nat} {x : Nat → Int} {Z y : Int} (hc : CpS h t P x Z) (hy : 0 ≤ y ∧ y ≤ Z) : CpS (hI h 23 r y) t P x Z := by
  obtain ⟨ht, hP, h4, h8, h9, h20, hx, hso, hZ0, hZ, h23⟩ := hc
  refine ⟨ht, hP, by rw [hI_ni (by omega)]; exact h4, by rw [hI_ni (by omega)]; exact h8, by rw [hI_ni (by omega)]; exact h9, fun k hk => by rw [hI_ni (by omega)]; exact h20 k hk, hx, hso, hZ0, hZ, fun i hi => ?_⟩
  rw [hI_rd]
  split
  · exact hy
  · exact h23 i hi
theorem c_canPlace {t P : Nat} {x : Nat → Int} {Z : Int} : ∀ (m : Nat) (h : Hp) (k : Nat), P - k = m → k ≤ P → ROk h.2.2 → CpS h t P x Z → sm (h.1 23) t = t * Z - sm x k → Ev mX0_canPlaceFrom (m + 1) 0 (entL [.ref 18, iv (k : Int)] 6) [] h (PE (bi (cp t x P m (h.1 23))) h) := by
  intro m
  induction m with
  | zero =>
    intro h k hm hk hR hc hsum
    show Ev mX0_canPlaceFrom (0 + 1) 0 [some (.ref 18), some (iv (k : Int)), none, none, none, none] [] h _
    have h4 := hc.2.2.1
    have hP := hc.2.1
    refine Ev.iload_n dX0_canPlaceFrom_0 (Eq.refl 1) rfl ?_
    refine Ev.aload_n dX0_canPlaceFrom_1 (Eq.refl 2) rfl ?_
    refine Ev.getI dX0_canPlaceFrom_2 (Eq.refl 5) fg_X0_43 rfl rfl ?_
    rw [h4]
    refine Ev.icmp_ge (tgt := 14) dX0_canPlaceFrom_5 (Eq.refl 8) (by decide) ⟨by omega, by omega⟩ ⟨by omega, by omega⟩ (fun c5 => ?_) (fun c5 => ?_)
    · refine Ev.iconst dX0_canPlaceFrom_14 (Eq.refl 15) ?_
      exact Ev.zret dX0_canPlaceFrom_15 rfl (by first | exact bi01 _ | exact Or.inl rfl | exact Or.inr rfl | omega) (PE.of (bi_t trivial).symm)
    · omega
  | succ m ih =>
    intro h k hm hk hR hc hsum
    show Ev mX0_canPlaceFrom (m + 1 + 1) 0 [some (.ref 18), some (iv (k : Int)), none, none, none, none] [] h _
    have hc' := hc
    obtain ⟨ht, hP, h4, h8, h9, h20, hx, hso, hZ0, hZ, h23⟩ := hc
    have ek : P - (m + 1) = k := by omega
    have xk := hx k
    have e20 := h20 k (by omega)
    have LOOP : ∀ (w r : Nat) (b : Option Value), t - r = w → r ≤ t → (∀ i, i < r → ¬ (x k ≤ h.1 23 i ∧ cp t x P m (up (h.1 23) i (h.1 23 i - x k)))) → Ev mX0_canPlaceFrom (m + 1 + 1) 40 [some (.ref 18), some (iv (k : Int)), some (iv (x k)), some (.ref 23), some (iv (r : Int)), b] [] h (PE (bi (cp t x P (m + 1) (h.1 23))) h) := by
      intro w
      induction w using Nat.strongRecOn with
      | ind w iw =>
        intro r b hw hr hno
        by_cases hr2 : r < t
        · have br := h23 r hr2
          have hno1 : ∀ (q : ¬ (x k ≤ h.1 23 r ∧ cp t x P m (up (h.1 23) r (h.1 23 r - x k)))), ∀ i, i < r + 1 → ¬ (x k ≤ h.1 23 i ∧ cp t x P m (up (h.1 23) i (h.1 23 i - x k))) := fun q i hi => if e : i = r then by rw [e]; exact q else hno i (by omega)
          have recu : x k ≤ h.1 23 r → Ev mX0_canPlaceFrom (m + 1) 0 (entL [.ref 18, iv ((k : Int) + 1)] 6) [] (hI h 23 r (h.1 23 r - x k)) (PE (bi (cp t x P m (up (h.1 23) r (h.1 23 r - x k)))) (hI h 23 r (h.1 23 r - x k))) := fun l => by
            have := ih (hI h 23 r (h.1 23 r - x k)) (k + 1) (by omega) (by omega) hR (CpS_w hc' (by omega)) (by rw [hI_up, sm_up hr2, hsum]; show _ = _ - (sm x k + x k); omega)
            rw [hI_up] at this
            exact this
          refine Ev.iload dX0_canPlaceFrom_40 (Eq.refl 42) rfl ?_
          refine Ev.aload_n dX0_canPlaceFrom_42 (Eq.refl 43) rfl ?_
          refine Ev.getI dX0_canPlaceFrom_43 (Eq.refl 46) fg_X0_73 rfl rfl ?_
          rw [h8]
          refine Ev.icmp_ge (tgt := 116) dX0_canPlaceFrom_46 (Eq.refl 49) (by decide) ⟨by omega, by omega⟩ ⟨by omega, by omega⟩ (fun c46 => ?_) (fun c46 => ?_)
          · omega
          · refine Ev.aload_n dX0_canPlaceFrom_49 (Eq.refl 50) rfl ?_
            refine Ev.iload dX0_canPlaceFrom_50 (Eq.refl 52) rfl ?_
            refine Ev.iaload dX0_canPlaceFrom_52 (Eq.refl 53) rfl rfl (by omega) (by decide) (by first | with_reducible exact Int.toNat_natCast _ | exact Eq.refl _) ?_
            refine Ev.iload_n dX0_canPlaceFrom_53 (Eq.refl 54) rfl ?_
            refine Ev.icmp_lt (tgt := 110) dX0_canPlaceFrom_54 (Eq.refl 57) (by decide) ⟨by omega, by omega⟩ ⟨by omega, by omega⟩ (fun c54 => ?_) (fun c54 => ?_)
            · have hq : ¬ (x k ≤ h.1 23 r ∧ cp t x P m (up (h.1 23) r (h.1 23 r - x k))) := fun z => by have := z.1; omega
              refine Ev.ii4 dX0_canPlaceFrom_110 (Eq.refl 113) (by decide) rfl ?_
              refine Ev.goto' (pc' := 40) dX0_canPlaceFrom_113 (by decide) ?_
              exact iw _ (by omega) (r + 1) _ rfl (by omega) (hno1 hq)
            · refine Ev.aload_n dX0_canPlaceFrom_57 (Eq.refl 58) rfl ?_
              refine Ev.iload dX0_canPlaceFrom_58 (Eq.refl 60) rfl ?_
              refine Ev.cv1E dX0_canPlaceFrom_60 (Eq.refl 63) cw_X0_90 (Nat.le_of_ble_eq_true rfl) (by omega) rfl rfl rfl (Nat.le_of_ble_eq_true rfl) (c_isLike hR hc' hr2) ?_
              refine Ev.if_eqB (tgt := 69) dX0_canPlaceFrom_63 (Eq.refl 66) (by decide) (fun c63 => ?_) (fun c63 => ?_)
              · refine Ev.aload_n dX0_canPlaceFrom_69 (Eq.refl 70) rfl ?_
                refine Ev.iload dX0_canPlaceFrom_70 (Eq.refl 72) rfl ?_
                refine Ev.dup2 dX0_canPlaceFrom_72 (Eq.refl 73) rfl rfl ?_
                refine Ev.iaload dX0_canPlaceFrom_73 (Eq.refl 74) rfl rfl (by omega) (by decide) (by first | with_reducible exact Int.toNat_natCast _ | exact Eq.refl _) ?_
                refine Ev.iload_n dX0_canPlaceFrom_74 (Eq.refl 75) rfl ?_
                refine Ev.isub dX0_canPlaceFrom_75 (Eq.refl 76) ?_
                refine Ev.iastore dX0_canPlaceFrom_76 (Eq.refl 77) rfl rfl (by omega) (by decide) (by first | with_reducible exact Int.toNat_natCast _ | exact Eq.refl _) ?_
                refine Ev.aload_n dX0_canPlaceFrom_77 (Eq.refl 78) rfl ?_
                refine Ev.iload_n dX0_canPlaceFrom_78 (Eq.refl 79) rfl ?_
                refine Ev.iconst dX0_canPlaceFrom_79 (Eq.refl 80) ?_
                refine Ev.iadd dX0_canPlaceFrom_80 (Eq.refl 81) ?_
                refine Ev.cs2E dX0_canPlaceFrom_81 (Eq.refl 84) cw_X0_79 (Nat.le_of_ble_eq_true rfl) (by omega) rfl (Nat.le_of_ble_eq_true rfl) (recu (by omega)) ?_
                have b01 := bi01 (cp t x P m (up (h.1 23) r (h.1 23 r - x k)))
                refine Ev.is5 dX0_canPlaceFrom_84 (Eq.refl 86) (by decide) rfl ?_
                refine Ev.aload_n dX0_canPlaceFrom_86 (Eq.refl 87) rfl ?_
                refine Ev.iload dX0_canPlaceFrom_87 (Eq.refl 89) rfl ?_
                refine Ev.dup2 dX0_canPlaceFrom_89 (Eq.refl 90) rfl rfl ?_
                refine Ev.iaload dX0_canPlaceFrom_90 (Eq.refl 91) rfl rfl (by omega) (by decide) (by first | with_reducible exact Int.toNat_natCast _ | exact Eq.refl _) ?_
                rw [hI_eq]
                refine Ev.iload_n dX0_canPlaceFrom_91 (Eq.refl 92) rfl ?_
                refine Ev.iadd dX0_canPlaceFrom_92 (Eq.refl 93) ?_
                refine Ev.iastore dX0_canPlaceFrom_93 (Eq.refl 94) rfl rfl (by omega) (by decide) (by first | with_reducible exact Int.toNat_natCast _ | exact Eq.refl _) ?_
                rw [hI_back]
                refine Ev.iload dX0_canPlaceFrom_94 (Eq.refl 96) rfl ?_
                refine Ev.if_ne (tgt := 107) dX0_canPlaceFrom_96 (Eq.refl 99) (by decide) (biR _) (fun c96 => ?_) (fun c96 => ?_)
                · refine Ev.iload dX0_canPlaceFrom_107 (Eq.refl 109) rfl ?_
                  exact Ev.zret dX0_canPlaceFrom_109 rfl (by first | exact bi01 _ | exact Or.inl rfl | exact Or.inr rfl | omega) (PE.of (by first | (have hcp := bi_1 (by omega : bi (cp t x P m (up (h.1 23) r (h.1 23 r - x k))) = 1); rw [bi_t hcp]; exact (bi_t ⟨r, hr2, by rw [ek]; omega, by rw [ek]; exact hcp⟩).symm) | (rw [c96]; refine (bi_f (fun z => ?_)).symm; obtain ⟨q, q1, q2, q3⟩ := z; rw [ek] at q2 q3; exact bi_0 c96 (cp_exact' hr2 q1 (fun i hi => (h23 i hi).1) (fun i => (hx i).1) c104 q2 q3))))
                · refine Ev.aload_n dX0_canPlaceFrom_99 (Eq.refl 100) rfl ?_
                  refine Ev.iload dX0_canPlaceFrom_100 (Eq.refl 102) rfl ?_
                  refine Ev.iaload dX0_canPlaceFrom_102 (Eq.refl 103) rfl rfl (by omega) (by decide) (by first | with_reducible exact Int.toNat_natCast _ | exact Eq.refl _) ?_
                  refine Ev.iload_n dX0_canPlaceFrom_103 (Eq.refl 104) rfl ?_
                  refine Ev.icmp_ne (tgt := 110) dX0_canPlaceFrom_104 (Eq.refl 107) (by decide) ⟨by omega, by omega⟩ ⟨by omega, by omega⟩ (fun c104 => ?_) (fun c104 => ?_)
                  · have hq : ¬ (x k ≤ h.1 23 r ∧ cp t x P m (up (h.1 23) r (h.1 23 r - x k))) := fun z => bi_0 c96 z.2
                    refine Ev.ii4 dX0_canPlaceFrom_110 (Eq.refl 113) (by decide) rfl ?_
                    refine Ev.goto' (pc' := 40) dX0_canPlaceFrom_113 (by decide) ?_
                    exact iw _ (by omega) (r + 1) _ rfl (by omega) (hno1 hq)
                  · refine Ev.iload dX0_canPlaceFrom_107 (Eq.refl 109) rfl ?_
                    exact Ev.zret dX0_canPlaceFrom_109 rfl (by first | exact bi01 _ | exact Or.inl rfl | exact Or.inr rfl | omega) (PE.of (by first | (have hcp := bi_1 (by omega : bi (cp t x P m (up (h.1 23) r (h.1 23 r - x k))) = 1); rw [bi_t hcp]; exact (bi_t ⟨r, hr2, by rw [ek]; omega, by rw [ek]; exact hcp⟩).symm) | (rw [c96]; refine (bi_f (fun z => ?_)).symm; obtain ⟨q, q1, q2, q3⟩ := z; rw [ek] at q2 q3; exact bi_0 c96 (cp_exact' hr2 q1 (fun i hi => (h23 i hi).1) (fun i => (hx i).1) c104 q2 q3))))
              · obtain ⟨a, ha, ea⟩ := c63
                have hq : ¬ (x k ≤ h.1 23 r ∧ cp t x P m (up (h.1 23) r (h.1 23 r - x k))) := fun z => hno a ha ⟨by rw [ea]; exact z.1, cp_like hr2 (by omega) ea.symm z.2⟩
                refine Ev.goto' (pc' := 110) dX0_canPlaceFrom_66 (by decide) ?_
                refine Ev.ii4 dX0_canPlaceFrom_110 (Eq.refl 113) (by decide) rfl ?_
                refine Ev.goto' (pc' := 40) dX0_canPlaceFrom_113 (by decide) ?_
                exact iw _ (by omega) (r + 1) _ rfl (by omega) (hno1 hq)
        · have e : r = t := by omega
          subst e
          refine Ev.iload dX0_canPlaceFrom_40 (Eq.refl 42) rfl ?_
          refine Ev.aload_n dX0_canPlaceFrom_42 (Eq.refl 43) rfl ?_
          refine Ev.getI dX0_canPlaceFrom_43 (Eq.refl 46) fg_X0_73 rfl rfl ?_
          rw [h8]
          refine Ev.icmp_ge (tgt := 116) dX0_canPlaceFrom_46 (Eq.refl 49) (by decide) ⟨by omega, by omega⟩ ⟨by omega, by omega⟩ (fun c46 => ?_) (fun c46 => ?_)
          · refine Ev.iconst dX0_canPlaceFrom_116 (Eq.refl 117) ?_
            exact Ev.zret dX0_canPlaceFrom_117 rfl (by first | exact bi01 _ | exact Or.inl rfl | exact Or.inr rfl | omega) (PE.of (bi_f (fun ⟨q, q1, q2, q3⟩ => hno q q1 ⟨by rw [ek] at q2; exact q2, by rw [ek] at q3; exact q3⟩)).symm)
          · omega
    have shb : ∀ i, i < P → shrt x P ≤ x i := fun i hi => by
      show (if 0 < P then x (P - 1) else 0) ≤ _
      rw [if_pos (by omega)]
      exact hso i (P - 1) (by omega) (by omega)
    have sh0 : 0 ≤ shrt x P := by unfold shrt; have := hx (P - 1); split <;> omega
    refine Ev.iload_n dX0_canPlaceFrom_0 (Eq.refl 1) rfl ?_
    refine Ev.aload_n dX0_canPlaceFrom_1 (Eq.refl 2) rfl ?_
    refine Ev.getI dX0_canPlaceFrom_2 (Eq.refl 5) fg_X0_43 rfl rfl ?_
    rw [h4]
    refine Ev.icmp_ge (tgt := 14) dX0_canPlaceFrom_5 (Eq.refl 8) (by decide) ⟨by omega, by omega⟩ ⟨by omega, by omega⟩ (fun c5 => ?_) (fun c5 => ?_)
    · omega
    · refine Ev.iload_n dX0_canPlaceFrom_8 (Eq.refl 9) rfl ?_
      refine Ev.bipush dX0_canPlaceFrom_9 (Eq.refl 11) (by decide) ?_
      refine Ev.icmp_lt (tgt := 16) dX0_canPlaceFrom_11 (Eq.refl 14) (by decide) ⟨by omega, by omega⟩ ⟨by omega, by omega⟩ (fun c11 => ?_) (fun c11 => ?_)
      · refine Ev.aload_n dX0_canPlaceFrom_16 (Eq.refl 17) rfl ?_
        refine Ev.cv0E dX0_canPlaceFrom_17 (Eq.refl 20) cw_X0_86 (Nat.le_of_ble_eq_true rfl) (by omega) rfl rfl rfl (Nat.le_of_ble_eq_true rfl) (c_tooMuch hR hc') ?_
        refine Ev.if_eqB (tgt := 25) dX0_canPlaceFrom_20 (Eq.refl 23) (by decide) (fun c20 => ?_) (fun c20 => ?_)
        · refine Ev.aload_n dX0_canPlaceFrom_25 (Eq.refl 26) rfl ?_
          refine Ev.getR dX0_canPlaceFrom_26 (Eq.refl 29) fg_X0_15 rfl rfl (rX0_1 hR) ?_
          refine Ev.iload_n dX0_canPlaceFrom_29 (Eq.refl 30) rfl ?_
          refine Ev.iaload dX0_canPlaceFrom_30 (Eq.refl 31) rfl rfl (by omega) (by decide) (by first | with_reducible exact Int.toNat_natCast _ | exact Eq.refl _) ?_
          rw [e20]
          refine Ev.is2 dX0_canPlaceFrom_31 (Eq.refl 32) (by decide) rfl ?_
          refine Ev.aload_n dX0_canPlaceFrom_32 (Eq.refl 33) rfl ?_
          refine Ev.getR dX0_canPlaceFrom_33 (Eq.refl 36) fg_X0_24 rfl rfl (rX0_7 hR) ?_
          refine Ev.as3 dX0_canPlaceFrom_36 (Eq.refl 37) (by decide) rfl ?_
          refine Ev.iconst dX0_canPlaceFrom_37 (Eq.refl 38) ?_
          refine Ev.is4 dX0_canPlaceFrom_38 (Eq.refl 40) (by decide) rfl ?_
          exact LOOP _ 0 _ rfl (by omega) (fun i hi => by omega)
        · refine Ev.iconst dX0_canPlaceFrom_23 (Eq.refl 24) ?_
          exact Ev.zret dX0_canPlaceFrom_24 rfl (by first | exact bi01 _ | exact Or.inl rfl | exact Or.inr rfl | omega) (PE.of (bi_f (fun z => by have := cp_lost' sh0 (by omega) (fun i hi => (h23 i hi).1) shb z; rw [ek, hsum] at this; omega)).symm)
      · omega
