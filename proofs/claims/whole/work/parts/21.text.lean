/-! Letters, TextReader: the text's spec -/
theorem Ev.mono {M : Mi} {d pc : Nat} {ls : List (Option Value)} {st : List Value} {h : Hp} {P Q : Pst} (hE : Ev M d pc ls st h P) (hq : ∀ v h', P v h' → Q v h') : Ev M d pc ls st h Q := by
  intro p l e R s m args below meth c D cy ad A Qc F H locs lsA X
  obtain ⟨f1, f2, f3, f4, f5, f6, f7, f8, f9, f10, f11⟩ := F
  exact hE p l e R s m args below meth c D cy ad A Qc ⟨f1, f2, f3, f4, f5, f6, f7, f8, f9, f10, fun v h' t hp => f11 v h' t (hq v h' hp)⟩ H locs lsA X
def TX (h : Hp) (t : Nat → Int) (L : Nat) : Prop := h.1 1 1 = (L : Int) ∧ L ≤ 200 ∧ ∀ k, k < L → h.1 2 k = t k ∧ 32 ≤ t k ∧ t k ≤ 126
def tA (t : Nat → Int) (L p : Nat) : Int := if p < L then t p else 0
abbrev fig (t : Nat → Int) (L p : Nat) : Prop := 48 ≤ tA t L p ∧ tA t L p ≤ 57
def pNum (t : Nat → Int) (L p : Nat) : Option (Int × Nat) := if fig t L p then (if fig t L (p + 1) then some ((tA t L p - 48) * 10 + tA t L (p + 1) - 48, p + 2) else some (tA t L p - 48, p + 1)) else none
def pNs (t : Nat → Int) (L : Nat) : Nat → Nat → Option (List Int × Nat)
  | 0, _ => none
  | m + 1, p => match pNum t L p with
    | none => none
    | some q => if m = 0 then (if tA t L q.2 = 59 then some ([q.1], q.2 + 1) else none) else if tA t L q.2 = 44 then (match pNs t L m (q.2 + 1) with
      | none => none
      | some r => some (q.1 :: r.1, r.2)) else none
theorem TX.r {h : Hp} {t : Nat → Int} {L : Nat} (hT : TX h t L) (p : Nat) : 0 ≤ tA t L p ∧ tA t L p ≤ 126 ∧ (tA t L p ≠ 0 → p < L) := by
  unfold tA
  split
  · next q => have := hT.2.2 p q; omega
  · omega
noncomputable def cApp (h : Hp) (c : Int) : Hp := hI (hI h 2 (h.1 1 1).toNat c) 1 1 (h.1 1 1 + 1)
theorem c_append {h : Hp} {c : Int} (hR : ROk h.2.2) (hL : 0 ≤ h.1 1 1 ∧ h.1 1 1 ≤ 200) (hc : 0 ≤ c ∧ c < 65536) : Ev mX1_append 0 0 (entL [.ref 1, iv c] 2) [] h (PB (h.1 1 1 < 200) (cApp h c) h) := by
  show Ev mX1_append 0 0 [some (.ref 1), some (iv c)] [] h _
  refine Ev.aload_n dX1_append_0 (Eq.refl 1) rfl ?_
  refine Ev.getI dX1_append_1 (Eq.refl 4) fg_X1_15 rfl rfl ?_
  refine Ev.sipush dX1_append_4 (Eq.refl 7) (by decide) ?_
  refine Ev.icmp_lt (tgt := 12) dX1_append_7 (Eq.refl 10) (by decide) ⟨by omega, by omega⟩ ⟨by omega, by omega⟩ (fun c7 => ?_) (fun c7 => ?_)
  · refine Ev.aload_n dX1_append_12 (Eq.refl 13) rfl ?_
    refine Ev.getR dX1_append_13 (Eq.refl 16) fg_X1_9 rfl rfl (rX1_0 hR) ?_
    refine Ev.aload_n dX1_append_16 (Eq.refl 17) rfl ?_
    refine Ev.getI dX1_append_17 (Eq.refl 20) fg_X1_15 rfl rfl ?_
    refine Ev.iload_n dX1_append_20 (Eq.refl 21) rfl ?_
    refine Ev.castore dX1_append_21 (Eq.refl 22) rfl rfl (by omega) (by decide) (by omega) (by first | with_reducible exact Int.toNat_natCast _ | exact Eq.refl _) ?_
    refine Ev.aload_n dX1_append_22 (Eq.refl 23) rfl ?_
    refine Ev.dupR dX1_append_23 (Eq.refl 24) ?_
    refine Ev.getI dX1_append_24 (Eq.refl 27) fg_X1_15 rfl rfl ?_
    refine Ev.iconst dX1_append_27 (Eq.refl 28) ?_
    refine Ev.iadd dX1_append_28 (Eq.refl 29) ?_
    refine Ev.putI dX1_append_29 (Eq.refl 32) fp_X1_15 rfl rfl (Or.inl rfl) ?_
    refine Ev.iconst dX1_append_32 (Eq.refl 33) ?_
    exact Ev.zret dX1_append_33 rfl (by first | exact bi01 _ | exact Or.inl rfl | exact Or.inr rfl | omega) (PB.t (by omega))
  · refine Ev.iconst dX1_append_10 (Eq.refl 11) ?_
    exact Ev.zret dX1_append_11 rfl (by first | exact bi01 _ | exact Or.inl rfl | exact Or.inr rfl | omega) (PB.f (by omega))
theorem c_at {h : Hp} {t : Nat → Int} {L : Nat} {p : Int} (hR : ROk h.2.2) (hT : TX h t L) (hp : 0 ≤ p ∧ p ≤ 1000) : Ev mX1_at 0 0 (entL [.ref 1, iv p] 2) [] h (PE (tA t L p.toNat) h) := by
  show Ev mX1_at 0 0 [some (.ref 1), some (iv p)] [] h _
  have hL := hT.1
  have hL2 := hT.2.1
  refine Ev.iload_n dX1_at_0 (Eq.refl 1) rfl ?_
  refine Ev.if_lt (tgt := 21) dX1_at_1 (Eq.refl 4) (by decide) ⟨by omega, by omega⟩ (fun c1 => ?_) (fun c1 => ?_)
  · omega
  · refine Ev.iload_n dX1_at_4 (Eq.refl 5) rfl ?_
    refine Ev.aload_n dX1_at_5 (Eq.refl 6) rfl ?_
    refine Ev.getI dX1_at_6 (Eq.refl 9) fg_X1_15 rfl rfl ?_
    refine Ev.icmp_ge (tgt := 21) dX1_at_9 (Eq.refl 12) (by decide) ⟨by omega, by omega⟩ ⟨by omega, by omega⟩ (fun c9 => ?_) (fun c9 => ?_)
    · have e0 : tA t L p.toNat = 0 := if_neg (by omega)
      refine Ev.iconst dX1_at_21 (Eq.refl 22) ?_
      exact Ev.cret dX1_at_22 rfl (by omega) (PE.of e0.symm)
    · have hk := hT.2.2 p.toNat (by omega)
      have e0 : tA t L p.toNat = h.1 2 p.toNat := by rw [hk.1]; exact if_pos (by omega)
      refine Ev.aload_n dX1_at_12 (Eq.refl 13) rfl ?_
      refine Ev.getR dX1_at_13 (Eq.refl 16) fg_X1_9 rfl rfl (rX1_0 hR) ?_
      refine Ev.iload_n dX1_at_16 (Eq.refl 17) rfl ?_
      refine Ev.caload dX1_at_17 (Eq.refl 18) rfl rfl (by omega) (by decide) (by first | with_reducible exact Int.toNat_natCast _ | exact Eq.refl _) ?_
      refine Ev.goto' (pc' := 22) dX1_at_18 (by decide) ?_
      exact Ev.cret dX1_at_22 rfl (by omega) (PE.of e0.symm)
theorem c_isFigure {h : Hp} {t : Nat → Int} {L : Nat} {p : Int} (hR : ROk h.2.2) (hT : TX h t L) (hp : 0 ≤ p ∧ p ≤ 1000) : Ev mX1_isFigure 1 0 (entL [.ref 1, iv p] 2) [] h (PE (bi (fig t L p.toNat)) h) := by
  show Ev mX1_isFigure 1 0 [some (.ref 1), some (iv p)] [] h _
  have hr := hT.r p.toNat
  refine Ev.aload_n dX1_isFigure_0 (Eq.refl 1) rfl ?_
  refine Ev.iload_n dX1_isFigure_1 (Eq.refl 2) rfl ?_
  refine Ev.cv1E dX1_isFigure_2 (Eq.refl 5) cw_X1_19 (Nat.le_of_ble_eq_true rfl) (by decide) rfl rfl rfl (Nat.le_of_ble_eq_true rfl) (c_at hR hT (by omega)) ?_
  refine Ev.bipush dX1_isFigure_5 (Eq.refl 7) (by decide) ?_
  refine Ev.icmp_lt (tgt := 24) dX1_isFigure_7 (Eq.refl 10) (by decide) ⟨by omega, by omega⟩ ⟨by omega, by omega⟩ (fun c7 => ?_) (fun c7 => ?_)
  · refine Ev.iconst dX1_isFigure_24 (Eq.refl 25) ?_
    exact Ev.zret dX1_isFigure_25 rfl (by first | exact bi01 _ | exact Or.inl rfl | exact Or.inr rfl | omega) (PE.of (by first | exact (bi_f (by omega)).symm | exact (bi_t (by omega)).symm))
  · refine Ev.aload_n dX1_isFigure_10 (Eq.refl 11) rfl ?_
    refine Ev.iload_n dX1_isFigure_11 (Eq.refl 12) rfl ?_
    refine Ev.cv1E dX1_isFigure_12 (Eq.refl 15) cw_X1_19 (Nat.le_of_ble_eq_true rfl) (by decide) rfl rfl rfl (Nat.le_of_ble_eq_true rfl) (c_at hR hT (by omega)) ?_
    refine Ev.bipush dX1_isFigure_15 (Eq.refl 17) (by decide) ?_
    refine Ev.icmp_gt (tgt := 24) dX1_isFigure_17 (Eq.refl 20) (by decide) ⟨by omega, by omega⟩ ⟨by omega, by omega⟩ (fun c17 => ?_) (fun c17 => ?_)
    · refine Ev.iconst dX1_isFigure_24 (Eq.refl 25) ?_
      exact Ev.zret dX1_isFigure_25 rfl (by first | exact bi01 _ | exact Or.inl rfl | exact Or.inr rfl | omega) (PE.of (by first | exact (bi_f (by omega)).symm | exact (bi_t (by omega)).symm))
    · refine Ev.iconst dX1_isFigure_20 (Eq.refl 21) ?_
      refine Ev.goto' (pc' := 25) dX1_isFigure_21 (by decide) ?_
      exact Ev.zret dX1_isFigure_25 rfl (by first | exact bi01 _ | exact Or.inl rfl | exact Or.inr rfl | omega) (PE.of (by first | exact (bi_f (by omega)).symm | exact (bi_t (by omega)).symm))
def nOf (c : Int) : Nat := if c = 102 then 3 else if c = 117 then 1 else if c = 115 then 4 else if c = 114 then 2 else 0
theorem c_numbersOf {h : Hp} {c : Int} (hc : 0 ≤ c ∧ c ≤ 126) : Ev mX5_numbersOf 0 0 (entL [.ref 3, iv c] 2) [] h (PE (nOf c : Nat) h) := by
  show Ev mX5_numbersOf 0 0 [some (.ref 3), some (iv c)] [] h _
  refine Ev.iload_n dX5_numbersOf_0 (Eq.refl 1) rfl ?_
  rcases (by omega : (c ≠ 102 ∧ c ≠ 114 ∧ c ≠ 115 ∧ c ≠ 117) ∨ c = 102 ∨ c = 114 ∨ c = 115 ∨ c = 117) with c1 | c1 | c1 | c1 | c1
  · refine Ev.look (tgt := 52) (off := 51) dX5_numbersOf_1 (by decide) ⟨by omega, by omega⟩ (by simp only [Op.lookupswitch.offset_cons, Op.lookupswitch.offset]; repeat' split; all_goals omega) (by decide) ?_
    refine Ev.iconst dX5_numbersOf_52 (Eq.refl 53) ?_
    exact Ev.iret dX5_numbersOf_53 rfl (PE.of (by unfold nOf; first | (rw [c1]; rfl) | (rw [if_neg (by omega), if_neg (by omega), if_neg (by omega), if_neg (by omega)]; rfl)))
  · refine Ev.look (tgt := 44) (off := 43) dX5_numbersOf_1 (by decide) ⟨by omega, by omega⟩ (by rw [c1] <;> rfl) (by decide) ?_
    refine Ev.iconst dX5_numbersOf_44 (Eq.refl 45) ?_
    exact Ev.iret dX5_numbersOf_45 rfl (PE.of (by unfold nOf; first | (rw [c1]; rfl) | (rw [if_neg (by omega), if_neg (by omega), if_neg (by omega), if_neg (by omega)]; rfl)))
  · refine Ev.look (tgt := 50) (off := 49) dX5_numbersOf_1 (by decide) ⟨by omega, by omega⟩ (by rw [c1] <;> rfl) (by decide) ?_
    refine Ev.iconst dX5_numbersOf_50 (Eq.refl 51) ?_
    exact Ev.iret dX5_numbersOf_51 rfl (PE.of (by unfold nOf; first | (rw [c1]; rfl) | (rw [if_neg (by omega), if_neg (by omega), if_neg (by omega), if_neg (by omega)]; rfl)))
  · refine Ev.look (tgt := 48) (off := 47) dX5_numbersOf_1 (by decide) ⟨by omega, by omega⟩ (by rw [c1] <;> rfl) (by decide) ?_
    refine Ev.iconst dX5_numbersOf_48 (Eq.refl 49) ?_
    exact Ev.iret dX5_numbersOf_49 rfl (PE.of (by unfold nOf; first | (rw [c1]; rfl) | (rw [if_neg (by omega), if_neg (by omega), if_neg (by omega), if_neg (by omega)]; rfl)))
  · refine Ev.look (tgt := 46) (off := 45) dX5_numbersOf_1 (by decide) ⟨by omega, by omega⟩ (by rw [c1] <;> rfl) (by decide) ?_
    refine Ev.iconst dX5_numbersOf_46 (Eq.refl 47) ?_
    exact Ev.iret dX5_numbersOf_47 rfl (PE.of (by unfold nOf; first | (rw [c1]; rfl) | (rw [if_neg (by omega), if_neg (by omega), if_neg (by omega), if_neg (by omega)]; rfl)))
/-- the heap with f for what 'numbers' holds -/
def h4 (h : Hp) (f : Nat → Int) : Hp := (fun i j => if i = 4 then f j else h.1 i j, h.2)
theorem h4_id {h : Hp} : h4 h (h.1 4) = h := by
  refine hp_ext (fun a b => ?_) (fun _ _ => rfl) rfl
  show (if a = 4 then h.1 4 b else h.1 a b) = h.1 a b
  split
  · next e => rw [e]
  · rfl
theorem h4_I {h : Hp} {f : Nat → Int} {k : Nat} {x : Int} : hI (h4 h f) 4 k x = h4 h (fun j => if j = k then x else f j) := by
  refine hp_ext (fun a b => ?_) (fun _ _ => rfl) rfl
  show (if a = 4 ∧ b = k then x else if a = 4 then f b else h.1 a b) = if a = 4 then (if b = k then x else f b) else h.1 a b
  by_cases e : a = 4
  · by_cases e2 : b = k
    · rw [if_pos ⟨e, e2⟩, if_pos e, if_pos e2]
    · rw [if_neg (by omega), if_pos e, if_pos e, if_neg e2]
  · rw [if_neg (by omega), if_neg e, if_neg e]
def tnPost (t : Nat → Int) (L m k p : Nat) (f f' : Nat → Int) (x : Int) : Prop := (∀ i, i < k → f' i = f i) ∧ if k = m then x = (p : Int) else match pNs t L (m - k) p with
  | none => x = -4
  | some r => x = (r.2 : Int) ∧ p < r.2 ∧ r.2 ≤ L ∧ ∀ i, i < m - k → f' (k + i) = r.1.getD i 0 ∧ 0 ≤ r.1.getD i 0 ∧ r.1.getD i 0 ≤ 99
theorem tn_step {t : Nat → Int} {L m k p p1 : Nat} {f f' : Nat → Int} {x v : Int} (hk : k < m) (hq : pNum t L p = some (v, p1)) (hs : tA t L p1 = if k = m - 1 then 59 else 44) (hv : 0 ≤ v ∧ v ≤ 99) (hp : p < p1) (hp1 : p1 < L) (hx : tnPost t L m (k + 1) (p1 + 1) (fun j => if j = k then v else f j) f' x) : tnPost t L m k p f f' x := by
  obtain ⟨h1, h2⟩ := hx
  have hfk : f' k = v := by rw [h1 k (by omega)]; exact if_pos rfl
  refine ⟨fun i hi => by rw [h1 i (by omega)]; exact if_neg (by omega), ?_⟩
  rw [if_neg (by omega)]
  obtain ⟨j, hj⟩ : ∃ j, m - k = j + 1 := ⟨m - k - 1, by omega⟩
  rw [hj]
  unfold pNs
  rw [hq]
  simp only
  by_cases e : k + 1 = m
  · rw [if_pos e] at h2
    have hj0 : j = 0 := by omega
    rw [if_pos (by omega)] at hs
    rw [if_pos hj0, if_pos hs]
    refine ⟨h2, by simp only; omega, by simp only; omega, fun i hi => ?_⟩
    have : i = 0 := by omega
    subst this
    exact ⟨hfk, hv⟩
  · rw [if_neg e] at h2
    rw [if_neg (by omega)] at hs
    rw [if_neg (by omega), if_pos hs]
    have ej : m - (k + 1) = j := by omega
    rw [ej] at h2
    cases hr : pNs t L j (p1 + 1) with
    | none => rw [hr] at h2; exact h2
    | some r =>
      rw [hr] at h2
      obtain ⟨g1, g2, g3, g4⟩ := h2
      refine ⟨g1, by simp only; omega, g3, fun i hi => ?_⟩
      cases i with
      | zero => exact ⟨hfk, hv⟩
      | succ i =>
        have := g4 i (by omega)
        rw [show k + (i + 1) = k + 1 + i by omega]
        exact this
theorem tn_none {t : Nat → Int} {L m k p : Nat} {f : Nat → Int} (hk : k < m) (hq : pNum t L p = none) : tnPost t L m k p f f (-4) := by
  refine ⟨fun _ _ => rfl, ?_⟩
  rw [if_neg (by omega)]
  obtain ⟨j, hj⟩ : ∃ j, m - k = j + 1 := ⟨m - k - 1, by omega⟩
  rw [hj]
  unfold pNs
  rw [hq]
theorem tn_sep {t : Nat → Int} {L m k p p1 : Nat} {f : Nat → Int} {v : Int} (hk : k < m) (hq : pNum t L p = some (v, p1)) (hs : ¬ tA t L p1 = if k = m - 1 then 59 else 44) : tnPost t L m k p f (fun j => if j = k then v else f j) (-4) := by
  refine ⟨fun i hi => if_neg (by omega), ?_⟩
  rw [if_neg (by omega)]
  obtain ⟨j, hj⟩ : ∃ j, m - k = j + 1 := ⟨m - k - 1, by omega⟩
  rw [hj]
  unfold pNs
  rw [hq]
  simp only
  by_cases e : k + 1 = m
  · rw [if_pos (by omega)] at hs
    rw [if_pos (by omega), if_neg hs]
    trivial
  · rw [if_neg (by omega)] at hs
    rw [if_neg (by omega), if_neg hs]
    trivial
theorem c_takeNumbers {h : Hp} {t : Nat → Int} {L m p0 : Nat} (hR : ROk h.2.2) (hT : TX h t L) (hm : 1 ≤ m ∧ m ≤ 4) (hp : p0 ≤ L) : Ev mX5_takeNumbers 2 0 (entL [.ref 3, .ref 1, iv (p0 : Int), iv (m : Int)] 7) [] h (PI (fun x h' => ∃ f', h' = h4 h f' ∧ tnPost t L m 0 p0 (h.1 4) f' x)) := by
  show Ev mX5_takeNumbers 2 0 [some (.ref 3), some (.ref 1), some (iv (p0 : Int)), some (iv (m : Int)), none, none, none] [] h _
  have hL := hT.2.1
  have LOOP : ∀ (m2 k p : Nat) (f : Nat → Int) (a : Option Value), m - k = m2 → k ≤ m → p ≤ L → Ev mX5_takeNumbers 2 6 [some (.ref 3), some (.ref 1), some (iv (p0 : Int)), some (iv (m : Int)), some (iv (p : Int)), some (iv (k : Int)), a] [] (h4 h f) (PI (fun x h' => ∃ f', h' = h4 h f' ∧ tnPost t L m k p f f' x)) := by
    intro m2
    induction m2 using Nat.strongRecOn with
    | ind m2 ih =>
      intro k p f a hm2 hk hp
      have r0 := hT.r p
      have r1 := hT.r (p + 1)
      have r2 := hT.r (p + 2)
      have hT : TX (h4 h f) t L := hT
      refine Ev.iload dX5_takeNumbers_6 (Eq.refl 8) rfl ?_
      refine Ev.iload_n dX5_takeNumbers_8 (Eq.refl 9) rfl ?_
      refine Ev.icmp_ge (tgt := 112) dX5_takeNumbers_9 (Eq.refl 12) (by decide) ⟨by omega, by omega⟩ ⟨by omega, by omega⟩ (fun c9 => ?_) (fun c9 => ?_)
      · refine Ev.iload_n dX5_takeNumbers_112 (Eq.refl 113) rfl ?_
        refine Ev.if_le (tgt := 121) dX5_takeNumbers_113 (Eq.refl 116) (by decide) ⟨by omega, by omega⟩ (fun c113 => ?_) (fun c113 => ?_)
        · omega
        · refine Ev.iload dX5_takeNumbers_116 (Eq.refl 118) rfl ?_
          refine Ev.goto' (pc' := 123) dX5_takeNumbers_118 (by decide) ?_
          exact Ev.iret dX5_takeNumbers_123 rfl (⟨_, rfl, f, rfl, fun _ _ => rfl, by rw [if_pos (show k = m by omega)]⟩)
      · refine Ev.aload_n dX5_takeNumbers_12 (Eq.refl 13) rfl ?_
        refine Ev.iload dX5_takeNumbers_13 (Eq.refl 15) rfl ?_
        refine Ev.cv1E dX5_takeNumbers_15 (Eq.refl 18) cw_X5_46 (Nat.le_of_ble_eq_true rfl) (by decide) rfl rfl rfl (Nat.le_of_ble_eq_true rfl) (c_isFigure hR hT (by omega)) ?_
        rw [Int.toNat_natCast]
        refine Ev.if_neB (tgt := 24) dX5_takeNumbers_18 (Eq.refl 21) (by decide) (fun c18 => ?_) (fun c18 => ?_)
        · refine Ev.aload_n dX5_takeNumbers_24 (Eq.refl 25) rfl ?_
          refine Ev.iload dX5_takeNumbers_25 (Eq.refl 27) rfl ?_
          refine Ev.cv1E dX5_takeNumbers_27 (Eq.refl 30) cw_X5_30 (Nat.le_of_ble_eq_true rfl) (by decide) rfl rfl rfl (Nat.le_of_ble_eq_true rfl) (c_at hR hT (by omega)) ?_
          rw [Int.toNat_natCast]
          refine Ev.bipush dX5_takeNumbers_30 (Eq.refl 32) (by decide) ?_
          refine Ev.isub dX5_takeNumbers_32 (Eq.refl 33) ?_
          refine Ev.is6 dX5_takeNumbers_33 (Eq.refl 35) (by decide) rfl ?_
          refine Ev.ii4 dX5_takeNumbers_35 (Eq.refl 38) (by decide) rfl ?_
          refine Ev.aload_n dX5_takeNumbers_38 (Eq.refl 39) rfl ?_
          refine Ev.iload dX5_takeNumbers_39 (Eq.refl 41) rfl ?_
          refine Ev.cv1E dX5_takeNumbers_41 (Eq.refl 44) cw_X5_46 (Nat.le_of_ble_eq_true rfl) (by decide) rfl rfl rfl (Nat.le_of_ble_eq_true rfl) (c_isFigure hR hT (by omega)) ?_
          rw [show ((p : Int) + 1).toNat = p + 1 by omega]
          refine Ev.if_eqB (tgt := 67) dX5_takeNumbers_44 (Eq.refl 47) (by decide) (fun c44 => ?_) (fun c44 => ?_)
          · have hq : pNum t L p = some (tA t L p - 48, p + 1) := by unfold pNum; rw [if_pos c18, if_neg c44]
            refine Ev.aload_n dX5_takeNumbers_67 (Eq.refl 68) rfl ?_
            refine Ev.getR dX5_takeNumbers_68 (Eq.refl 71) fg_X5_9 rfl rfl (rX5_0 hR) ?_
            refine Ev.iload dX5_takeNumbers_71 (Eq.refl 73) rfl ?_
            refine Ev.iload dX5_takeNumbers_73 (Eq.refl 75) rfl ?_
            refine Ev.iastore dX5_takeNumbers_75 (Eq.refl 76) rfl rfl (by omega) (by decide) (by first | with_reducible exact Int.toNat_natCast _ | exact Eq.refl _) ?_
            rw [h4_I]
            refine Ev.aload_n dX5_takeNumbers_76 (Eq.refl 77) rfl ?_
            refine Ev.iload dX5_takeNumbers_77 (Eq.refl 79) rfl ?_
            refine Ev.cv1E dX5_takeNumbers_79 (Eq.refl 82) cw_X5_30 (Nat.le_of_ble_eq_true rfl) (by decide) rfl rfl rfl (Nat.le_of_ble_eq_true rfl) (c_at hR (show TX (h4 h _) t L from hT) (by omega)) ?_
            first | rw [show ((p : Int) + 1).toNat = p + 1 by omega] | rw [Int.toNat_natCast]
            refine Ev.iload dX5_takeNumbers_82 (Eq.refl 84) rfl ?_
            refine Ev.iload_n dX5_takeNumbers_84 (Eq.refl 85) rfl ?_
            refine Ev.iconst dX5_takeNumbers_85 (Eq.refl 86) ?_
            refine Ev.isub dX5_takeNumbers_86 (Eq.refl 87) ?_
            refine Ev.icmp_ne (tgt := 95) dX5_takeNumbers_87 (Eq.refl 90) (by decide) ⟨by omega, by omega⟩ ⟨by omega, by omega⟩ (fun c87 => ?_) (fun c87 => ?_)
            · refine Ev.bipush dX5_takeNumbers_95 (Eq.refl 97) (by decide) ?_
              refine Ev.icmp_eq (tgt := 103) dX5_takeNumbers_97 (Eq.refl 100) (by decide) ⟨by omega, by omega⟩ ⟨by omega, by omega⟩ (fun c97 => ?_) (fun c97 => ?_)
              · have hs : tA t L _ = if k = m - 1 then 59 else 44 := c97.trans (by first | exact (if_pos (by omega)).symm | exact (if_neg (by omega)).symm)
                refine Ev.ii4 dX5_takeNumbers_103 (Eq.refl 106) (by decide) rfl ?_
                first | rw [show ((p : Int) + 1 + 1) = ((p + 2 : Nat) : Int) by omega] | rw [show (((p + 2 : Nat) : Int) + 1) = ((p + 3 : Nat) : Int) by omega]
                refine Ev.ii5 dX5_takeNumbers_106 (Eq.refl 109) (by decide) rfl ?_
                refine Ev.goto' (pc' := 6) dX5_takeNumbers_109 (by decide) ?_
                refine Ev.mono (ih _ (by omega) (k + 1) _ _ _ rfl (by omega) (by omega)) ?_
                rintro v h' ⟨x, rfl, f', rfl, hx⟩
                exact ⟨x, rfl, f', rfl, tn_step (by omega) hq hs (by omega) (by omega) (by omega) hx⟩
              · have hs : ¬ tA t L _ = if k = m - 1 then 59 else 44 := fun z => c97 (z.trans (by first | exact if_pos (by omega) | exact if_neg (by omega)))
                refine Ev.bipush dX5_takeNumbers_100 (Eq.refl 102) (by decide) ?_
                exact Ev.iret dX5_takeNumbers_102 rfl (⟨_, rfl, _, rfl, tn_sep (by omega) hq hs⟩)
            · refine Ev.bipush dX5_takeNumbers_90 (Eq.refl 92) (by decide) ?_
              refine Ev.goto' (pc' := 97) dX5_takeNumbers_92 (by decide) ?_
              refine Ev.icmp_eq (tgt := 103) dX5_takeNumbers_97 (Eq.refl 100) (by decide) ⟨by omega, by omega⟩ ⟨by omega, by omega⟩ (fun c97 => ?_) (fun c97 => ?_)
              · have hs : tA t L _ = if k = m - 1 then 59 else 44 := c97.trans (by first | exact (if_pos (by omega)).symm | exact (if_neg (by omega)).symm)
                refine Ev.ii4 dX5_takeNumbers_103 (Eq.refl 106) (by decide) rfl ?_
                first | rw [show ((p : Int) + 1 + 1) = ((p + 2 : Nat) : Int) by omega] | rw [show (((p + 2 : Nat) : Int) + 1) = ((p + 3 : Nat) : Int) by omega]
                refine Ev.ii5 dX5_takeNumbers_106 (Eq.refl 109) (by decide) rfl ?_
                refine Ev.goto' (pc' := 6) dX5_takeNumbers_109 (by decide) ?_
                refine Ev.mono (ih _ (by omega) (k + 1) _ _ _ rfl (by omega) (by omega)) ?_
                rintro v h' ⟨x, rfl, f', rfl, hx⟩
                exact ⟨x, rfl, f', rfl, tn_step (by omega) hq hs (by omega) (by omega) (by omega) hx⟩
              · have hs : ¬ tA t L _ = if k = m - 1 then 59 else 44 := fun z => c97 (z.trans (by first | exact if_pos (by omega) | exact if_neg (by omega)))
                refine Ev.bipush dX5_takeNumbers_100 (Eq.refl 102) (by decide) ?_
                exact Ev.iret dX5_takeNumbers_102 rfl (⟨_, rfl, _, rfl, tn_sep (by omega) hq hs⟩)
          · have hq : pNum t L p = some ((tA t L p - 48) * 10 + tA t L (p + 1) - 48, p + 2) := by unfold pNum; rw [if_pos c18, if_pos c44]
            refine Ev.iload dX5_takeNumbers_47 (Eq.refl 49) rfl ?_
            refine Ev.bipush dX5_takeNumbers_49 (Eq.refl 51) (by decide) ?_
            refine Ev.imul dX5_takeNumbers_51 (Eq.refl 52) ?_
            refine Ev.aload_n dX5_takeNumbers_52 (Eq.refl 53) rfl ?_
            refine Ev.iload dX5_takeNumbers_53 (Eq.refl 55) rfl ?_
            refine Ev.cv1E dX5_takeNumbers_55 (Eq.refl 58) cw_X5_30 (Nat.le_of_ble_eq_true rfl) (by decide) rfl rfl rfl (Nat.le_of_ble_eq_true rfl) (c_at hR hT (by omega)) ?_
            rw [show ((p : Int) + 1).toNat = p + 1 by omega]
            refine Ev.iadd dX5_takeNumbers_58 (Eq.refl 59) ?_
            refine Ev.bipush dX5_takeNumbers_59 (Eq.refl 61) (by decide) ?_
            refine Ev.isub dX5_takeNumbers_61 (Eq.refl 62) ?_
            refine Ev.is6 dX5_takeNumbers_62 (Eq.refl 64) (by decide) rfl ?_
            refine Ev.ii4 dX5_takeNumbers_64 (Eq.refl 67) (by decide) rfl ?_
            rw [show ((p : Int) + 1 + 1) = ((p + 2 : Nat) : Int) by omega]
            refine Ev.aload_n dX5_takeNumbers_67 (Eq.refl 68) rfl ?_
            refine Ev.getR dX5_takeNumbers_68 (Eq.refl 71) fg_X5_9 rfl rfl (rX5_0 hR) ?_
            refine Ev.iload dX5_takeNumbers_71 (Eq.refl 73) rfl ?_
            refine Ev.iload dX5_takeNumbers_73 (Eq.refl 75) rfl ?_
            refine Ev.iastore dX5_takeNumbers_75 (Eq.refl 76) rfl rfl (by omega) (by decide) (by first | with_reducible exact Int.toNat_natCast _ | exact Eq.refl _) ?_
            rw [h4_I]
            refine Ev.aload_n dX5_takeNumbers_76 (Eq.refl 77) rfl ?_
            refine Ev.iload dX5_takeNumbers_77 (Eq.refl 79) rfl ?_
            refine Ev.cv1E dX5_takeNumbers_79 (Eq.refl 82) cw_X5_30 (Nat.le_of_ble_eq_true rfl) (by decide) rfl rfl rfl (Nat.le_of_ble_eq_true rfl) (c_at hR (show TX (h4 h _) t L from hT) (by omega)) ?_
            first | rw [show ((p : Int) + 1).toNat = p + 1 by omega] | rw [Int.toNat_natCast]
            refine Ev.iload dX5_takeNumbers_82 (Eq.refl 84) rfl ?_
            refine Ev.iload_n dX5_takeNumbers_84 (Eq.refl 85) rfl ?_
            refine Ev.iconst dX5_takeNumbers_85 (Eq.refl 86) ?_
            refine Ev.isub dX5_takeNumbers_86 (Eq.refl 87) ?_
            refine Ev.icmp_ne (tgt := 95) dX5_takeNumbers_87 (Eq.refl 90) (by decide) ⟨by omega, by omega⟩ ⟨by omega, by omega⟩ (fun c87 => ?_) (fun c87 => ?_)
            · refine Ev.bipush dX5_takeNumbers_95 (Eq.refl 97) (by decide) ?_
              refine Ev.icmp_eq (tgt := 103) dX5_takeNumbers_97 (Eq.refl 100) (by decide) ⟨by omega, by omega⟩ ⟨by omega, by omega⟩ (fun c97 => ?_) (fun c97 => ?_)
              · have hs : tA t L _ = if k = m - 1 then 59 else 44 := c97.trans (by first | exact (if_pos (by omega)).symm | exact (if_neg (by omega)).symm)
                refine Ev.ii4 dX5_takeNumbers_103 (Eq.refl 106) (by decide) rfl ?_
                first | rw [show ((p : Int) + 1 + 1) = ((p + 2 : Nat) : Int) by omega] | rw [show (((p + 2 : Nat) : Int) + 1) = ((p + 3 : Nat) : Int) by omega]
                refine Ev.ii5 dX5_takeNumbers_106 (Eq.refl 109) (by decide) rfl ?_
                refine Ev.goto' (pc' := 6) dX5_takeNumbers_109 (by decide) ?_
                refine Ev.mono (ih _ (by omega) (k + 1) _ _ _ rfl (by omega) (by omega)) ?_
                rintro v h' ⟨x, rfl, f', rfl, hx⟩
                exact ⟨x, rfl, f', rfl, tn_step (by omega) hq hs (by omega) (by omega) (by omega) hx⟩
              · have hs : ¬ tA t L _ = if k = m - 1 then 59 else 44 := fun z => c97 (z.trans (by first | exact if_pos (by omega) | exact if_neg (by omega)))
                refine Ev.bipush dX5_takeNumbers_100 (Eq.refl 102) (by decide) ?_
                exact Ev.iret dX5_takeNumbers_102 rfl (⟨_, rfl, _, rfl, tn_sep (by omega) hq hs⟩)
            · refine Ev.bipush dX5_takeNumbers_90 (Eq.refl 92) (by decide) ?_
              refine Ev.goto' (pc' := 97) dX5_takeNumbers_92 (by decide) ?_
              refine Ev.icmp_eq (tgt := 103) dX5_takeNumbers_97 (Eq.refl 100) (by decide) ⟨by omega, by omega⟩ ⟨by omega, by omega⟩ (fun c97 => ?_) (fun c97 => ?_)
              · have hs : tA t L _ = if k = m - 1 then 59 else 44 := c97.trans (by first | exact (if_pos (by omega)).symm | exact (if_neg (by omega)).symm)
                refine Ev.ii4 dX5_takeNumbers_103 (Eq.refl 106) (by decide) rfl ?_
                first | rw [show ((p : Int) + 1 + 1) = ((p + 2 : Nat) : Int) by omega] | rw [show (((p + 2 : Nat) : Int) + 1) = ((p + 3 : Nat) : Int) by omega]
                refine Ev.ii5 dX5_takeNumbers_106 (Eq.refl 109) (by decide) rfl ?_
                refine Ev.goto' (pc' := 6) dX5_takeNumbers_109 (by decide) ?_
                refine Ev.mono (ih _ (by omega) (k + 1) _ _ _ rfl (by omega) (by omega)) ?_
                rintro v h' ⟨x, rfl, f', rfl, hx⟩
                exact ⟨x, rfl, f', rfl, tn_step (by omega) hq hs (by omega) (by omega) (by omega) hx⟩
              · have hs : ¬ tA t L _ = if k = m - 1 then 59 else 44 := fun z => c97 (z.trans (by first | exact if_pos (by omega) | exact if_neg (by omega)))
                refine Ev.bipush dX5_takeNumbers_100 (Eq.refl 102) (by decide) ?_
                exact Ev.iret dX5_takeNumbers_102 rfl (⟨_, rfl, _, rfl, tn_sep (by omega) hq hs⟩)
        · have hq : pNum t L p = none := if_neg c18
          refine Ev.bipush dX5_takeNumbers_21 (Eq.refl 23) (by decide) ?_
          exact Ev.iret dX5_takeNumbers_23 rfl (⟨_, rfl, f, rfl, tn_none (by omega) hq⟩)
  have := LOOP _ 0 p0 (h.1 4) none rfl (by omega) hp
  rw [h4_id] at this
  refine Ev.iload_n dX5_takeNumbers_0 (Eq.refl 1) rfl ?_
  refine Ev.is4 dX5_takeNumbers_1 (Eq.refl 3) (by decide) rfl ?_
  refine Ev.iconst dX5_takeNumbers_3 (Eq.refl 4) ?_
  refine Ev.is5 dX5_takeNumbers_4 (Eq.refl 6) (by decide) rfl ?_
  exact this
