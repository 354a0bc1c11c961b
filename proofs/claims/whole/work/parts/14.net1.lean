/-! RoofNet.isWithin, and the small methods of Net -/
theorem c_isWithin {h : Hp} {v lo hi : Int} (hv : I32 v) (hl : I32 lo) (hh : I32 hi) : Ev mX7_isWithin 0 0 (entL [iv v, iv lo, iv hi] 3) [] h (PE (bi (lo ≤ v ∧ v ≤ hi)) h) := by
  show Ev mX7_isWithin 0 0 [some (iv v), some (iv lo), some (iv hi)] [] h _
  obtain ⟨hv1, hv2⟩ := hv
  obtain ⟨hl1, hl2⟩ := hl
  obtain ⟨hh1, hh2⟩ := hh
  refine Ev.iload_n dX7_isWithin_0 (Eq.refl 1) rfl ?_
  refine Ev.iload_n dX7_isWithin_1 (Eq.refl 2) rfl ?_
  refine Ev.icmp_lt (tgt := 14) dX7_isWithin_2 (Eq.refl 5) (by decide) ⟨by omega, by omega⟩ ⟨by omega, by omega⟩ (fun c2 => ?_) (fun c2 => ?_)
  · refine Ev.iconst dX7_isWithin_14 (Eq.refl 15) ?_
    exact Ev.zret dX7_isWithin_15 rfl (by first | exact bi01 _ | exact Or.inl rfl | exact Or.inr rfl | omega) (PE.of (by simp only [bi]; split <;> omega))
  · refine Ev.iload_n dX7_isWithin_5 (Eq.refl 6) rfl ?_
    refine Ev.iload_n dX7_isWithin_6 (Eq.refl 7) rfl ?_
    refine Ev.icmp_gt (tgt := 14) dX7_isWithin_7 (Eq.refl 10) (by decide) ⟨by omega, by omega⟩ ⟨by omega, by omega⟩ (fun c7 => ?_) (fun c7 => ?_)
    · refine Ev.iconst dX7_isWithin_14 (Eq.refl 15) ?_
      exact Ev.zret dX7_isWithin_15 rfl (by first | exact bi01 _ | exact Or.inl rfl | exact Or.inr rfl | omega) (PE.of (by simp only [bi]; split <;> omega))
    · refine Ev.iconst dX7_isWithin_10 (Eq.refl 11) ?_
      refine Ev.goto' (pc' := 15) dX7_isWithin_11 (by decide) ?_
      exact Ev.zret dX7_isWithin_15 rfl (by first | exact bi01 _ | exact Or.inl rfl | exact Or.inr rfl | omega) (PE.of (by simp only [bi]; split <;> omega))
theorem c_hasJoint {h : Hp} {n : Nat} {j : Int} (hn : isNet n) (hj : I32 j) (hJ : 0 ≤ h.1 n 0 ∧ h.1 n 0 ≤ 10) : Ev mX2_hasJoint 1 0 (entL [.ref n, iv j] 2) [] h (PE (bi (0 ≤ j ∧ j < h.1 n 0)) h) := by
  show Ev mX2_hasJoint 1 0 [some (.ref n), some (iv j)] [] h _
  have e : bi (0 ≤ j ∧ j < h.1 n 0) = bi (0 ≤ j ∧ j ≤ h.1 n 0 - 1) := by simp only [bi]; split <;> split <;> omega
  rw [e]
  have h1 : I32 (h.1 n 0 - 1) := ⟨by omega, by omega⟩
  have h0 : I32 0 := i32z
  refine Ev.iload_n dX2_hasJoint_0 (Eq.refl 1) rfl ?_
  refine Ev.iconst dX2_hasJoint_1 (Eq.refl 2) ?_
  refine Ev.aload_n dX2_hasJoint_2 (Eq.refl 3) rfl ?_
  refine Ev.getI dX2_hasJoint_3 (Eq.refl 6) fg_X2_30 (lyN0 (by assumption)) rfl ?_
  refine Ev.iconst dX2_hasJoint_6 (Eq.refl 7) ?_
  refine Ev.isub dX2_hasJoint_7 (Eq.refl 8) ?_
  refine Ev.cn3E dX2_hasJoint_8 (Eq.refl 11) rfl (Nat.le_of_ble_eq_true rfl) (by decide) rfl (Nat.le_of_ble_eq_true rfl) (c_isWithin (by assumption) (by assumption) (by assumption)) ?_
  exact Ev.zret dX2_hasJoint_11 rfl (by first | exact bi01 _ | exact Or.inl rfl | exact Or.inr rfl | omega) (PE.mk)
theorem c_hasStrand {h : Hp} {n : Nat} {j : Int} (hn : isNet n) (hj : I32 j) (hJ : 0 ≤ h.1 n 2 ∧ h.1 n 2 ≤ 14) : Ev mX2_hasStrand 1 0 (entL [.ref n, iv j] 2) [] h (PE (bi (0 ≤ j ∧ j < h.1 n 2)) h) := by
  show Ev mX2_hasStrand 1 0 [some (.ref n), some (iv j)] [] h _
  have e : bi (0 ≤ j ∧ j < h.1 n 2) = bi (0 ≤ j ∧ j ≤ h.1 n 2 - 1) := by simp only [bi]; split <;> split <;> omega
  rw [e]
  have h1 : I32 (h.1 n 2 - 1) := ⟨by omega, by omega⟩
  have h0 : I32 0 := i32z
  refine Ev.iload_n dX2_hasStrand_0 (Eq.refl 1) rfl ?_
  refine Ev.iconst dX2_hasStrand_1 (Eq.refl 2) ?_
  refine Ev.aload_n dX2_hasStrand_2 (Eq.refl 3) rfl ?_
  refine Ev.getI dX2_hasStrand_3 (Eq.refl 6) fg_X2_37 (lyN0 (by assumption)) rfl ?_
  refine Ev.iconst dX2_hasStrand_6 (Eq.refl 7) ?_
  refine Ev.isub dX2_hasStrand_7 (Eq.refl 8) ?_
  refine Ev.cn3E dX2_hasStrand_8 (Eq.refl 11) rfl (Nat.le_of_ble_eq_true rfl) (by decide) rfl (Nat.le_of_ble_eq_true rfl) (c_isWithin (by assumption) (by assumption) (by assumption)) ?_
  exact Ev.zret dX2_hasStrand_11 rfl (by first | exact bi01 _ | exact Or.inl rfl | exact Or.inr rfl | omega) (PE.mk)
theorem p2n (k : Nat) : (2 : Int) ^ k = ((2 ^ k : Nat) : Int) := by simp
theorem p2le {k m : Nat} (h : k ≤ m) : (2 : Int) ^ k ≤ 2 ^ m := by
  rw [p2n, p2n]
  have := Nat.pow_le_pow_right (n := 2) (by omega) h
  omega
theorem shl0 {k : Nat} : 0 ≤ (1 : Int) * 2 ^ k := by
  rw [p2n, Int.one_mul]
  exact Int.natCast_nonneg _
theorem shl1 {y : Int} (h : y < 32) : (1 : Int) * 2 ^ y.toNat < 4294967296 := by
  have := p2le (show y.toNat ≤ 31 by omega)
  omega
theorem orLt {x : Int} {k : Nat} (h0 : 0 ≤ x) (h1 : x < 2 ^ k) : ((x.toNat ||| (1 * (2 : Int) ^ k).toNat : Nat) : Int) < 2 ^ (k + 1) := by
  rw [p2n] at h1
  rw [show (1 * (2 : Int) ^ k).toNat = 2 ^ k by rw [p2n]; omega, p2n]
  have h2 : x.toNat < 2 ^ (k + 1) := by
    have : 2 ^ (k + 1) = 2 * 2 ^ k := by rw [Nat.pow_succ]; omega
    omega
  have h3 : (2 ^ k : Nat) < 2 ^ (k + 1) := Nat.pow_lt_pow_right (by omega) (by omega)
  have := Nat.or_lt_two_pow h2 h3
  omega
theorem bitE {x : Int} {k : Nat} : ((((x.toNat >>> k : Nat) : Int).toNat &&& (1 : Int).toNat : Nat) : Int) = bi (tb x k) := by
  rw [Int.toNat_natCast, show (1 : Int).toNat = 1 from rfl, tb_bit]
  unfold bi
  split <;> rfl
theorem c_isFree {h : Hp} {n : Nat} {j : Int} (hn : isNet n) (hj : 0 ≤ j ∧ j < 32) (hJ : 0 ≤ h.1 n 1 ∧ h.1 n 1 ≤ 2147483647) : Ev mX2_isFree 0 0 (entL [.ref n, iv j] 2) [] h (PE (bi (tb (h.1 n 1) j.toNat)) h) := by
  show Ev mX2_isFree 0 0 [some (.ref n), some (iv j)] [] h _
  have hb := bi01 (tb (h.1 n 1) j.toNat)
  refine Ev.aload_n dX2_isFree_0 (Eq.refl 1) rfl ?_
  refine Ev.getI dX2_isFree_1 (Eq.refl 4) fg_X2_34 (lyN0 (by assumption)) rfl ?_
  refine Ev.iload_n dX2_isFree_4 (Eq.refl 5) rfl ?_
  refine Ev.ishr dX2_isFree_5 (Eq.refl 6) (b_shr (by omega) (by omega) (by omega) (by omega)) ?_
  refine Ev.iconst dX2_isFree_6 (Eq.refl 7) ?_
  refine Ev.iand dX2_isFree_7 (Eq.refl 8) (b_and (by first | exact Int.natCast_nonneg _ | exact shl0 | omega) (by first | exact Int.natCast_nonneg _ | exact shl0 | omega)) ?_
  rw [bitE]
  refine Ev.iconst dX2_isFree_8 (Eq.refl 9) ?_
  refine Ev.icmp_ne (tgt := 16) dX2_isFree_9 (Eq.refl 12) (by decide) ⟨by omega, by omega⟩ ⟨by omega, by omega⟩ (fun c9 => ?_) (fun c9 => ?_)
  · refine Ev.iconst dX2_isFree_16 (Eq.refl 17) ?_
    exact Ev.zret dX2_isFree_17 rfl (by first | exact bi01 _ | exact Or.inl rfl | exact Or.inr rfl | omega) (PE.of (by omega))
  · refine Ev.iconst dX2_isFree_12 (Eq.refl 13) ?_
    refine Ev.goto' (pc' := 17) dX2_isFree_13 (by decide) ?_
    exact Ev.zret dX2_isFree_17 rfl (by first | exact bi01 _ | exact Or.inl rfl | exact Or.inr rfl | omega) (PE.of (by omega))
theorem c_hangs {h : Hp} {n : Nat} {j : Int} (hn : isNet n) (hj : 0 ≤ j ∧ j < 32) (hJ : 0 ≤ h.1 n 3 ∧ h.1 n 3 ≤ 2147483647) : Ev mX2_hangs 0 0 (entL [.ref n, iv j] 2) [] h (PE (bi (tb (h.1 n 3) j.toNat)) h) := by
  show Ev mX2_hangs 0 0 [some (.ref n), some (iv j)] [] h _
  have hb := bi01 (tb (h.1 n 3) j.toNat)
  refine Ev.aload_n dX2_hangs_0 (Eq.refl 1) rfl ?_
  refine Ev.getI dX2_hangs_1 (Eq.refl 4) fg_X2_40 (lyN0 (by assumption)) rfl ?_
  refine Ev.iload_n dX2_hangs_4 (Eq.refl 5) rfl ?_
  refine Ev.ishr dX2_hangs_5 (Eq.refl 6) (b_shr (by omega) (by omega) (by omega) (by omega)) ?_
  refine Ev.iconst dX2_hangs_6 (Eq.refl 7) ?_
  refine Ev.iand dX2_hangs_7 (Eq.refl 8) (b_and (by first | exact Int.natCast_nonneg _ | exact shl0 | omega) (by first | exact Int.natCast_nonneg _ | exact shl0 | omega)) ?_
  rw [bitE]
  refine Ev.iconst dX2_hangs_8 (Eq.refl 9) ?_
  refine Ev.icmp_ne (tgt := 16) dX2_hangs_9 (Eq.refl 12) (by decide) ⟨by omega, by omega⟩ ⟨by omega, by omega⟩ (fun c9 => ?_) (fun c9 => ?_)
  · refine Ev.iconst dX2_hangs_16 (Eq.refl 17) ?_
    exact Ev.zret dX2_hangs_17 rfl (by first | exact bi01 _ | exact Or.inl rfl | exact Or.inr rfl | omega) (PE.of (by omega))
  · refine Ev.iconst dX2_hangs_12 (Eq.refl 13) ?_
    refine Ev.goto' (pc' := 17) dX2_hangs_13 (by decide) ?_
    exact Ev.zret dX2_hangs_17 rfl (by first | exact bi01 _ | exact Or.inl rfl | exact Or.inr rfl | omega) (PE.of (by omega))
theorem c_otherEnd {h : Hp} {n : Nat} {s j : Int} (hR : ROk h.2.2) (hn : isNet n) (hs : 0 ≤ s ∧ s < 14) (hj : I32 j) (h1 : I32 (h.1 (n + 3) s.toNat)) : Ev mX2_otherEnd 0 0 (entL [.ref n, iv s, iv j] 3) [] h (PE (if h.1 (n + 3) s.toNat = j then h.1 (n + 4) s.toNat else h.1 (n + 3) s.toNat) h) := by
  show Ev mX2_otherEnd 0 0 [some (.ref n), some (iv s), some (iv j)] [] h _
  obtain ⟨hj1, hj2⟩ := hj
  obtain ⟨h11, h12⟩ := h1
  refine Ev.aload_n dX2_otherEnd_0 (Eq.refl 1) rfl ?_
  refine Ev.getR dX2_otherEnd_1 (Eq.refl 4) fg_X2_18 (lyN0 (by assumption)) rfl (rN8 hR (by assumption)) ?_
  refine Ev.iload_n dX2_otherEnd_4 (Eq.refl 5) rfl ?_
  refine Ev.iaload dX2_otherEnd_5 (Eq.refl 6) (lyN3 (by assumption)) rfl (by omega) (by decide) (by first | with_reducible exact Int.toNat_natCast _ | exact Eq.refl _) ?_
  refine Ev.iload_n dX2_otherEnd_6 (Eq.refl 7) rfl ?_
  refine Ev.icmp_ne (tgt := 19) dX2_otherEnd_7 (Eq.refl 10) (by decide) ⟨by omega, by omega⟩ ⟨by omega, by omega⟩ (fun c7 => ?_) (fun c7 => ?_)
  · refine Ev.aload_n dX2_otherEnd_19 (Eq.refl 20) rfl ?_
    refine Ev.getR dX2_otherEnd_20 (Eq.refl 23) fg_X2_18 (lyN0 (by assumption)) rfl (rN8 hR (by assumption)) ?_
    refine Ev.iload_n dX2_otherEnd_23 (Eq.refl 24) rfl ?_
    refine Ev.iaload dX2_otherEnd_24 (Eq.refl 25) (lyN3 (by assumption)) rfl (by omega) (by decide) (by first | with_reducible exact Int.toNat_natCast _ | exact Eq.refl _) ?_
    exact Ev.iret dX2_otherEnd_25 rfl (PE.of (by first | rw [if_pos (by assumption)] | rw [if_neg (by assumption)]))
  · refine Ev.aload_n dX2_otherEnd_10 (Eq.refl 11) rfl ?_
    refine Ev.getR dX2_otherEnd_11 (Eq.refl 14) fg_X2_21 (lyN0 (by assumption)) rfl (rN9 hR (by assumption)) ?_
    refine Ev.iload_n dX2_otherEnd_14 (Eq.refl 15) rfl ?_
    refine Ev.iaload dX2_otherEnd_15 (Eq.refl 16) (lyN4 (by assumption)) rfl (by omega) (by decide) (by first | with_reducible exact Int.toNat_natCast _ | exact Eq.refl _) ?_
    refine Ev.goto' (pc' := 25) dX2_otherEnd_16 (by decide) ?_
    exact Ev.iret dX2_otherEnd_25 rfl (PE.of (by first | rw [if_pos (by assumption)] | rw [if_neg (by assumption)]))
/-- strandsAt(j): which strands have the joint j as an end -/
def isSAt (h : Hp) (n : Nat) (j : Int) (k : Nat) (x : Int) : Prop := 0 ≤ x ∧ x < 2 ^ k ∧ ∀ s : Nat, tb x s ↔ s < k ∧ (h.1 (n + 3) s = j ∨ h.1 (n + 4) s = j)
theorem isSAt_s {h : Hp} {n : Nat} {j : Int} {k : Nat} {x : Int} (hx : isSAt h n j k x) (hq : h.1 (n + 3) k = j ∨ h.1 (n + 4) k = j) : isSAt h n j (k + 1) ((x.toNat ||| (1 * (2 : Int) ^ k).toNat : Nat) : Int) := by
  refine ⟨Int.natCast_nonneg _, orLt hx.1 hx.2.1, fun s => ?_⟩
  rw [tb_or, tb_one, hx.2.2 s]
  constructor
  · rintro (⟨h1, h2⟩ | rfl)
    · exact ⟨by omega, h2⟩
    · exact ⟨by omega, hq⟩
  · rintro ⟨h1, h2⟩
    by_cases e : s = k
    · exact Or.inr e
    · exact Or.inl ⟨by omega, h2⟩
theorem isSAt_n {h : Hp} {n : Nat} {j : Int} {k : Nat} {x : Int} (hx : isSAt h n j k x) (h1 : ¬ h.1 (n + 3) k = j) (h2 : ¬ h.1 (n + 4) k = j) : isSAt h n j (k + 1) x := by
  refine ⟨hx.1, Int.lt_of_lt_of_le hx.2.1 (p2le (by omega)), fun s => ?_⟩
  rw [hx.2.2 s]
  constructor
  · rintro ⟨a, b⟩
    exact ⟨by omega, b⟩
  · rintro ⟨a, b⟩
    by_cases e : s = k
    · subst e
      rcases b with b | b <;> contradiction
    · exact ⟨by omega, b⟩
theorem c_strandsAt {h : Hp} {n : Nat} {j : Int} (hR : ROk h.2.2) (hn : isNet n) (hS : 0 ≤ h.1 n 2 ∧ h.1 n 2 ≤ 14) (hj : I32 j) (hf : ∀ s : Nat, (s : Int) < h.1 n 2 → I32 (h.1 (n + 3) s) ∧ I32 (h.1 (n + 4) s)) : Ev mX2_strandsAt 0 0 (entL [.ref n, iv j] 4) [] h (PI (fun x h' => h' = h ∧ isSAt h n j (h.1 n 2).toNat x)) := by
  show Ev mX2_strandsAt 0 0 [some (.ref n), some (iv j), none, none] [] h _
  obtain ⟨hj1, hj2⟩ := hj
  have LOOP : ∀ (m k : Nat) (x : Int), (h.1 n 2).toNat - k = m → k ≤ (h.1 n 2).toNat → isSAt h n j k x → Ev mX2_strandsAt 0 4 [some (.ref n), some (iv j), some (iv x), some (iv (k : Int))] [] h (PI (fun x h' => h' = h ∧ isSAt h n j (h.1 n 2).toNat x)) := by
    intro m
    induction m using Nat.strongRecOn with
    | ind m ih =>
      intro k x hm hk hx
      have hx0 := hx.1
      refine Ev.iload_n dX2_strandsAt_4 (Eq.refl 5) rfl ?_
      refine Ev.aload_n dX2_strandsAt_5 (Eq.refl 6) rfl ?_
      refine Ev.getI dX2_strandsAt_6 (Eq.refl 9) fg_X2_37 (lyN0 (by assumption)) rfl ?_
      refine Ev.icmp_ge (tgt := 44) dX2_strandsAt_9 (Eq.refl 12) (by decide) ⟨by omega, by omega⟩ ⟨by omega, by omega⟩ (fun c9 => ?_) (fun c9 => ?_)
      · have e : k = (h.1 n 2).toNat := by omega
        refine Ev.iload_n dX2_strandsAt_44 (Eq.refl 45) rfl ?_
        exact Ev.iret dX2_strandsAt_45 rfl (⟨_, rfl, rfl, (by rw [← e]; exact hx)⟩)
      · obtain ⟨⟨f1, f2⟩, ⟨f3, f4⟩⟩ := hf k (by omega)
        refine Ev.aload_n dX2_strandsAt_12 (Eq.refl 13) rfl ?_
        refine Ev.getR dX2_strandsAt_13 (Eq.refl 16) fg_X2_18 (lyN0 (by assumption)) rfl (rN8 hR (by assumption)) ?_
        refine Ev.iload_n dX2_strandsAt_16 (Eq.refl 17) rfl ?_
        refine Ev.iaload dX2_strandsAt_17 (Eq.refl 18) (lyN3 (by assumption)) rfl (by omega) (by decide) (by first | with_reducible exact Int.toNat_natCast _ | exact Eq.refl _) ?_
        refine Ev.iload_n dX2_strandsAt_18 (Eq.refl 19) rfl ?_
        refine Ev.icmp_eq (tgt := 32) dX2_strandsAt_19 (Eq.refl 22) (by decide) ⟨by omega, by omega⟩ ⟨by omega, by omega⟩ (fun c19 => ?_) (fun c19 => ?_)
        · have hq : h.1 (n + 3) k = j ∨ h.1 (n + 4) k = j := Or.inl c19
          refine Ev.iload_n dX2_strandsAt_32 (Eq.refl 33) rfl ?_
          refine Ev.iconst dX2_strandsAt_33 (Eq.refl 34) ?_
          refine Ev.iload_n dX2_strandsAt_34 (Eq.refl 35) rfl ?_
          refine Ev.ishl dX2_strandsAt_35 (Eq.refl 36) (b_shl (by omega) (by omega) (by omega) (shl1 (by omega))) ?_
          refine Ev.ior dX2_strandsAt_36 (Eq.refl 37) (b_or (by first | exact Int.natCast_nonneg _ | exact shl0 | omega) (by first | exact Int.natCast_nonneg _ | exact shl0 | omega)) ?_
          refine Ev.is2 dX2_strandsAt_37 (Eq.refl 38) (by decide) rfl ?_
          have hx := isSAt_s hx hq
          refine Ev.ii3 dX2_strandsAt_38 (Eq.refl 41) (by decide) rfl ?_
          refine Ev.goto' (pc' := 4) dX2_strandsAt_41 (by decide) ?_
          exact ih _ (by omega) (k + 1) _ rfl (by omega) hx
        · refine Ev.aload_n dX2_strandsAt_22 (Eq.refl 23) rfl ?_
          refine Ev.getR dX2_strandsAt_23 (Eq.refl 26) fg_X2_21 (lyN0 (by assumption)) rfl (rN9 hR (by assumption)) ?_
          refine Ev.iload_n dX2_strandsAt_26 (Eq.refl 27) rfl ?_
          refine Ev.iaload dX2_strandsAt_27 (Eq.refl 28) (lyN4 (by assumption)) rfl (by omega) (by decide) (by first | with_reducible exact Int.toNat_natCast _ | exact Eq.refl _) ?_
          refine Ev.iload_n dX2_strandsAt_28 (Eq.refl 29) rfl ?_
          refine Ev.icmp_ne (tgt := 38) dX2_strandsAt_29 (Eq.refl 32) (by decide) ⟨by omega, by omega⟩ ⟨by omega, by omega⟩ (fun c29 => ?_) (fun c29 => ?_)
          · have hx := isSAt_n hx c19 c29
            refine Ev.ii3 dX2_strandsAt_38 (Eq.refl 41) (by decide) rfl ?_
            refine Ev.goto' (pc' := 4) dX2_strandsAt_41 (by decide) ?_
            exact ih _ (by omega) (k + 1) _ rfl (by omega) hx
          · have hq : h.1 (n + 3) k = j ∨ h.1 (n + 4) k = j := Or.inr c29
            refine Ev.iload_n dX2_strandsAt_32 (Eq.refl 33) rfl ?_
            refine Ev.iconst dX2_strandsAt_33 (Eq.refl 34) ?_
            refine Ev.iload_n dX2_strandsAt_34 (Eq.refl 35) rfl ?_
            refine Ev.ishl dX2_strandsAt_35 (Eq.refl 36) (b_shl (by omega) (by omega) (by omega) (shl1 (by omega))) ?_
            refine Ev.ior dX2_strandsAt_36 (Eq.refl 37) (b_or (by first | exact Int.natCast_nonneg _ | exact shl0 | omega) (by first | exact Int.natCast_nonneg _ | exact shl0 | omega)) ?_
            refine Ev.is2 dX2_strandsAt_37 (Eq.refl 38) (by decide) rfl ?_
            have hx := isSAt_s hx hq
            refine Ev.ii3 dX2_strandsAt_38 (Eq.refl 41) (by decide) rfl ?_
            refine Ev.goto' (pc' := 4) dX2_strandsAt_41 (by decide) ?_
            exact ih _ (by omega) (k + 1) _ rfl (by omega) hx
  refine Ev.iconst dX2_strandsAt_0 (Eq.refl 1) ?_
  refine Ev.is2 dX2_strandsAt_1 (Eq.refl 2) (by decide) rfl ?_
  refine Ev.iconst dX2_strandsAt_2 (Eq.refl 3) ?_
  refine Ev.is3 dX2_strandsAt_3 (Eq.refl 4) (by decide) rfl ?_
  exact LOOP _ 0 0 rfl (by omega) ⟨by decide, by decide, fun s => by simp⟩
