/-! The model: lengths and what follows from them -/
def MB (h : Hp) (v : Nv) : Prop := MOk h.2.2 ∧ GOk (h.1 2) ∧ gV (h.1 2) = v
def MS (h : Hp) (v : Nv) : Prop := MB h v ∧ aH v (hgV v) ∧ LY h v
section MBS
variable {h : Hp} {v : Nv}
theorem MB.s0 (B : MB h v) : h.1 2 0 = (vJ v : Int) := by obtain ⟨_, ok, rfl⟩ := B; exact gJ ok
theorem MB.s1 (B : MB h v) : h.1 2 1 = (vS v : Int) := by obtain ⟨_, ok, rfl⟩ := B; exact gS ok
theorem MB.vk (B : MB h v) : VOk v := by obtain ⟨_, ok, rfl⟩ := B; exact ok.2.2.2.2
theorem MB.c {g : Hp} (B : MB h v) (e : g.2.2 = h.2.2) (e2 : g.1 2 = h.1 2) : MB g v := by obtain ⟨hR, ok, hV⟩ := B; exact ⟨by rw [e]; exact hR, by rw [e2]; exact ok, by rw [e2]; exact hV⟩
theorem MB.k {g : Hp} (B : MB h v) (q : Lk h g) : MB g v := B.c q.1 q.s
theorem MB.w {i k : Nat} {x : Int} (B : MB h v) (q : i ≠ 2) : MB (hI h i k x) v := B.c rfl (funext fun j => hI_ni (by omega))
theorem q_free {j : Nat} (B : MB h v) (hj : j < vJ v) : Ev mX8_isFree 0 0 (entL [.ref 0, iv (j : Int)] 2) [] h (PE (bi (vF v j = true)) h) := by obtain ⟨hR, ok, rfl⟩ := B; exact m_isFree hR ok hj
theorem q_hangs {k : Nat} (B : MB h v) (hk : k < vS v) : Ev mX8_hangs 1 0 (entL [.ref 0, iv (k : Int)] 2) [] h (PE (bi (vH v k = true)) h) := by obtain ⟨hR, ok, rfl⟩ := B; exact m_hangs hR ok hk
theorem q_ofA {k : Nat} (B : MB h v) (hk : k < vS v) : Ev mX8_of 0 0 (entL [.ref 0, iv (k : Int), iv 0] 3) [] h (PE (vA v k : Nat) h) := by obtain ⟨hR, ok, rfl⟩ := B; exact m_ofA hR ok hk
theorem q_ofB {k : Nat} (B : MB h v) (hk : k < vS v) : Ev mX8_of 0 0 (entL [.ref 0, iv (k : Int), iv 1] 3) [] h (PE (vB v k : Nat) h) := by obtain ⟨hR, ok, rfl⟩ := B; exact m_ofB hR ok hk
theorem q_ofQ {k : Nat} (B : MB h v) (hk : k < vS v) : Ev mX8_of 0 0 (entL [.ref 0, iv (k : Int), iv 2] 3) [] h (PE (vQ v k) h) := by obtain ⟨hR, ok, rfl⟩ := B; exact m_ofQ hR ok hk
theorem q_ofW {k : Nat} (B : MB h v) (hk : k < vS v) : Ev mX8_of 0 0 (entL [.ref 0, iv (k : Int), iv 3] 3) [] h (PE (vW v k) h) := by obtain ⟨hR, ok, rfl⟩ := B; exact m_ofW hR ok hk
theorem q_isOf {k j : Nat} (B : MB h v) (hk : k < vS v) (hj : j < 100) : Ev mX8_isOf 1 0 (entL [.ref 0, iv (k : Int), iv (j : Int)] 3) [] h (PE (bi (vA v k = j ∨ vB v k = j)) h) := by obtain ⟨hR, ok, rfl⟩ := B; exact m_isOf hR ok hk hj
theorem q_other {k j : Nat} (B : MB h v) (hk : k < vS v) (hj : j < 100) : Ev mX8_other 1 0 (entL [.ref 0, iv (k : Int), iv (j : Int)] 3) [] h (PE (oth v k j : Nat) h) := by obtain ⟨hR, ok, rfl⟩ := B; exact m_other hR ok hk hj
theorem q_isJoint {j : Int} (B : MB h v) (hj : I32 j) : Ev mX8_isJoint 1 0 (entL [.ref 0, iv j] 2) [] h (PE (bi (isJ v j)) h) := by obtain ⟨hR, ok, rfl⟩ := B; exact m_isJoint hR ok hj
theorem q_isStrand {j : Int} (B : MB h v) (hj : I32 j) : Ev mX8_isStrand 1 0 (entL [.ref 0, iv j] 2) [] h (PE (bi (isS v j)) h) := by obtain ⟨hR, ok, rfl⟩ := B; exact m_isStrand hR ok hj
theorem q_lays (B : MB h v) : Ev mX8_lays 4 0 (entL [.ref 0] 10) [] h (PI (LyP h v)) := by obtain ⟨hR, ok, rfl⟩ := B; exact m_lays hR ok
theorem q_hung {w : Int} (B : MB h v) (hw : -4 ≤ w ∧ w ≤ 100) : Ev mX8_laysHung 2 0 (entL [.ref 0, iv w] 5) [] h (PI (fun x h' => Fr (fun i => i = 7) h h' ∧ x = bi (aH v (GW v w)) ∧ ∀ j, j < vJ v → h'.1 7 j = bi (hg v (GW v w) j))) := by obtain ⟨hR, ok, rfl⟩ := B; exact m_laysHung hR ok hw
theorem MS.of {g : Hp} {x : Int} (B : MB h v) (q : LyP h v x g) (ha : aH v (hgV v)) : MS g v := ⟨B.k q.1, ha, q.2.2.2 ha⟩
theorem q_lenG {u : Nv} {k : Nat} (B : MB h u) (hv : VOk v) (ha : aH v (hgV v)) (hy : LY h v) (eA : vA u k = vA v k) (eB : vB u k = vB v k) (hku : k < vS u) (hk : k < vS v) : Ev mX8_lengthOf 1 0 (entL [.ref 0, iv (k : Int)] 7) [] h (PE (len v k) h) := by
  show Ev mX8_lengthOf 1 0 [some (.ref 0), some (iv (k : Int)), none, none, none, none, none] [] h _
  have hR := B.1
  have cA := q_ofA B hku
  have cB := q_ofB B hku
  rw [eA] at cA
  rw [eB] at cB
  have b := hv.2.2.2.1 k hk
  have hJ := hv.1
  have hl := lnq_b hv ha hk
  have LOOP : ∀ (m a : Nat) (l5 : Option Value), 3 - a = m → a ≤ 3 → Ev mX8_lengthOf 1 5 [some (.ref 0), some (iv (k : Int)), some (jv (sm (fun i => wy v k i * wy v k i) a)), none, some (iv (a : Int)), l5, none] [] h (PE (len v k) h) := by
    intro m
    induction m using Nat.strongRecOn with
    | ind m ih =>
      intro a l5 hm ha3
      by_cases a3 : a < 3
      · have e1 := (hy.2 _ a b.1 a3).2
        have e2 := (hy.2 _ a b.2.1 a3).2
        have b1 := hU_b hv ha b.1 a3
        have b2 := hU_b hv ha b.2.1 a3
        have q1 : ((3 : Int) * (vA v k : Int) + (a : Int)).toNat = 3 * vA v k + a := by omega
        have q2 : ((3 : Int) * (vB v k : Int) + (a : Int)).toNat = 3 * vB v k + a := by omega
        have es : sm (fun i => wy v k i * wy v k i) a + (hU v (vA v k) a - hU v (vB v k) a) * (hU v (vA v k) a - hU v (vB v k) a) = sm (fun i => wy v k i * wy v k i) (a + 1) := by
          show _ = _ + wy v k a * wy v k a
          unfold wy
          grind
        refine Ev.iload dX8_lengthOf_5 (Eq.refl 7) rfl ?_
        refine Ev.iconst dX8_lengthOf_7 (Eq.refl 8) ?_
        refine Ev.icmp_ge (tgt := 61) dX8_lengthOf_8 (Eq.refl 11) (by decide) ⟨by omega, by omega⟩ ⟨by omega, by omega⟩ (fun c8 => ?_) (fun c8 => ?_)
        · omega
        · refine Ev.aload_n dX8_lengthOf_11 (Eq.refl 12) rfl ?_
          refine Ev.getR dX8_lengthOf_12 (Eq.refl 15) fg_X8_43 rfl rfl (rX8_17 hR) ?_
          refine Ev.iconst dX8_lengthOf_15 (Eq.refl 16) ?_
          refine Ev.aload_n dX8_lengthOf_16 (Eq.refl 17) rfl ?_
          refine Ev.iload_n dX8_lengthOf_17 (Eq.refl 18) rfl ?_
          refine Ev.iconst dX8_lengthOf_18 (Eq.refl 19) ?_
          refine Ev.cv2E dX8_lengthOf_19 (Eq.refl 22) cw_X8_131 (Nat.le_of_ble_eq_true rfl) (by decide) rfl rfl rfl (Nat.le_of_ble_eq_true rfl) (cA) ?_
          refine Ev.imul dX8_lengthOf_22 (Eq.refl 23) ?_
          refine Ev.iload dX8_lengthOf_23 (Eq.refl 25) rfl ?_
          refine Ev.iadd dX8_lengthOf_25 (Eq.refl 26) ?_
          refine Ev.iaload dX8_lengthOf_26 (Eq.refl 27) rfl rfl (by omega) (by decide) q1 ?_
          rw [e1]
          refine Ev.aload_n dX8_lengthOf_27 (Eq.refl 28) rfl ?_
          refine Ev.getR dX8_lengthOf_28 (Eq.refl 31) fg_X8_43 rfl rfl (rX8_17 hR) ?_
          refine Ev.iconst dX8_lengthOf_31 (Eq.refl 32) ?_
          refine Ev.aload_n dX8_lengthOf_32 (Eq.refl 33) rfl ?_
          refine Ev.iload_n dX8_lengthOf_33 (Eq.refl 34) rfl ?_
          refine Ev.iconst dX8_lengthOf_34 (Eq.refl 35) ?_
          refine Ev.cv2E dX8_lengthOf_35 (Eq.refl 38) cw_X8_131 (Nat.le_of_ble_eq_true rfl) (by decide) rfl rfl rfl (Nat.le_of_ble_eq_true rfl) (cB) ?_
          refine Ev.imul dX8_lengthOf_38 (Eq.refl 39) ?_
          refine Ev.iload dX8_lengthOf_39 (Eq.refl 41) rfl ?_
          refine Ev.iadd dX8_lengthOf_41 (Eq.refl 42) ?_
          refine Ev.iaload dX8_lengthOf_42 (Eq.refl 43) rfl rfl (by omega) (by decide) q2 ?_
          rw [e2]
          refine Ev.isub dX8_lengthOf_43 (Eq.refl 44) ?_
          refine Ev.i2l dX8_lengthOf_44 (Eq.refl 45) ⟨by omega, by omega⟩ ?_
          refine Ev.ls5 dX8_lengthOf_45 (Eq.refl 47) (by decide) rfl ?_
          refine Ev.lload_n dX8_lengthOf_47 (Eq.refl 48) rfl ?_
          refine Ev.lload dX8_lengthOf_48 (Eq.refl 50) rfl ?_
          refine Ev.lload dX8_lengthOf_50 (Eq.refl 52) rfl ?_
          refine Ev.lmul dX8_lengthOf_52 (Eq.refl 53) ?_
          refine Ev.ladd dX8_lengthOf_53 (Eq.refl 54) ?_
          rw [es]
          refine Ev.ls2 dX8_lengthOf_54 (Eq.refl 55) (by decide) rfl ?_
          refine Ev.ii4 dX8_lengthOf_55 (Eq.refl 58) (by decide) rfl ?_
          refine Ev.goto' (pc' := 5) dX8_lengthOf_58 (by decide) ?_
          exact ih _ (by omega) (a + 1) _ rfl (by omega)
      · have e : a = 3 := by omega
        subst e
        have el : sm (fun i => wy v k i * wy v k i) 3 = lnq v k := by
          show 0 + wy v k 0 * wy v k 0 + wy v k 1 * wy v k 1 + wy v k 2 * wy v k 2 = _
          unfold lnq; omega
        rw [el]
        refine Ev.iload dX8_lengthOf_5 (Eq.refl 7) rfl ?_
        refine Ev.iconst dX8_lengthOf_7 (Eq.refl 8) ?_
        refine Ev.icmp_ge (tgt := 61) dX8_lengthOf_8 (Eq.refl 11) (by decide) ⟨by omega, by omega⟩ ⟨by omega, by omega⟩ (fun c8 => ?_) (fun c8 => ?_)
        · refine Ev.lload_n dX8_lengthOf_61 (Eq.refl 62) rfl ?_
          refine Ev.cs1F dX8_lengthOf_62 (Eq.refl 65) cw_X8_170 (Nat.le_of_ble_eq_true rfl) (by decide) rfl (Nat.le_of_ble_eq_true rfl) (m_root (by omega)) ?_
          refine Ev.l2i dX8_lengthOf_65 (Eq.refl 66) ?_
          exact Ev.iret dX8_lengthOf_66 rfl (PE.of rfl)
        · omega
  refine Ev.lconst0 dX8_lengthOf_0 (Eq.refl 1) ?_
  refine Ev.ls2 dX8_lengthOf_1 (Eq.refl 2) (by decide) rfl ?_
  refine Ev.iconst dX8_lengthOf_2 (Eq.refl 3) ?_
  refine Ev.is4 dX8_lengthOf_3 (Eq.refl 5) (by decide) rfl ?_
  exact LOOP _ 0 _ rfl (by omega)
theorem q_len {k : Nat} (M : MS h v) (hk : k < vS v) : Ev mX8_lengthOf 1 0 (entL [.ref 0, iv (k : Int)] 7) [] h (PE (len v k) h) := q_lenG M.1 M.1.vk M.2.1 M.2.2 rfl rfl hk hk
theorem q_off {k : Nat} (M : MS h v) (hk : k < vS v) : Ev mX8_offOf 2 0 (entL [.ref 0, iv (k : Int)] 3) [] h (PE (offV v k) h) := by
  show Ev mX8_offOf 2 0 [some (.ref 0), some (iv (k : Int)), none] [] h _
  have B := M.1
  have b := B.vk.2.2.2.1 k hk
  have hl := len_b B.vk M.2.1 hk
  refine Ev.aload_n dX8_offOf_0 (Eq.refl 1) rfl ?_
  refine Ev.iload_n dX8_offOf_1 (Eq.refl 2) rfl ?_
  refine Ev.cv1E dX8_offOf_2 (Eq.refl 5) cw_X8_174 (Nat.le_of_ble_eq_true rfl) (by decide) rfl rfl rfl (Nat.le_of_ble_eq_true rfl) (q_len M hk) ?_
  refine Ev.bipush dX8_offOf_5 (Eq.refl 7) (by decide) ?_
  refine Ev.aload_n dX8_offOf_7 (Eq.refl 8) rfl ?_
  refine Ev.iload_n dX8_offOf_8 (Eq.refl 9) rfl ?_
  refine Ev.iconst dX8_offOf_9 (Eq.refl 10) ?_
  refine Ev.cv2E dX8_offOf_10 (Eq.refl 13) cw_X8_131 (Nat.le_of_ble_eq_true rfl) (by decide) rfl rfl rfl (Nat.le_of_ble_eq_true rfl) (q_ofW B hk) ?_
  refine Ev.imul dX8_offOf_13 (Eq.refl 14) ?_
  refine Ev.isub dX8_offOf_14 (Eq.refl 15) ?_
  refine Ev.is2 dX8_offOf_15 (Eq.refl 16) (by decide) rfl ?_
  refine Ev.iload_n dX8_offOf_16 (Eq.refl 17) rfl ?_
  refine Ev.if_ge (tgt := 25) dX8_offOf_17 (Eq.refl 20) (by decide) ⟨by omega, by omega⟩ (fun c17 => ?_) (fun c17 => ?_)
  · refine Ev.iload_n dX8_offOf_25 (Eq.refl 26) rfl ?_
    exact Ev.iret dX8_offOf_26 rfl (PE.of (by unfold offV; first | rw [if_pos (by omega)] | rw [if_neg (by omega)]))
  · refine Ev.iload_n dX8_offOf_20 (Eq.refl 21) rfl ?_
    refine Ev.ineg dX8_offOf_21 (Eq.refl 22) ?_
    refine Ev.goto' (pc' := 26) dX8_offOf_22 (by decide) ?_
    exact Ev.iret dX8_offOf_26 rfl (PE.of (by unfold offV; first | rw [if_pos (by omega)] | rw [if_neg (by omega)]))
theorem q_asked {k : Nat} (B : MB h v) (hk : k < vS v) : Ev mX8_isAsked 2 0 (entL [.ref 0, iv (k : Int)] 2) [] h (PE (bi (vH v k = true ∧ 0 < vW v k)) h) := by
  show Ev mX8_isAsked 2 0 [some (.ref 0), some (iv (k : Int))] [] h _
  have b := B.vk.2.2.2.1 k hk
  refine Ev.aload_n dX8_isAsked_0 (Eq.refl 1) rfl ?_
  refine Ev.iload_n dX8_isAsked_1 (Eq.refl 2) rfl ?_
  refine Ev.cv1E dX8_isAsked_2 (Eq.refl 5) cw_X8_137 (Nat.le_of_ble_eq_true rfl) (by decide) rfl rfl rfl (Nat.le_of_ble_eq_true rfl) (q_hangs B hk) ?_
  refine Ev.if_eqB (tgt := 21) dX8_isAsked_5 (Eq.refl 8) (by decide) (fun c5 => ?_) (fun c5 => ?_)
  · refine Ev.iconst dX8_isAsked_21 (Eq.refl 22) ?_
    exact Ev.zret dX8_isAsked_22 rfl (by first | exact bi01 _ | exact Or.inl rfl | exact Or.inr rfl | omega) (PE.of (by first | exact (bi_f (fun z => c5 z.1)).symm | exact (bi_f (fun z => by have := z.2; omega)).symm | exact (bi_t ⟨c5, by omega⟩).symm))
  · refine Ev.aload_n dX8_isAsked_8 (Eq.refl 9) rfl ?_
    refine Ev.iload_n dX8_isAsked_9 (Eq.refl 10) rfl ?_
    refine Ev.iconst dX8_isAsked_10 (Eq.refl 11) ?_
    refine Ev.cv2E dX8_isAsked_11 (Eq.refl 14) cw_X8_131 (Nat.le_of_ble_eq_true rfl) (by decide) rfl rfl rfl (Nat.le_of_ble_eq_true rfl) (q_ofW B hk) ?_
    refine Ev.if_le (tgt := 21) dX8_isAsked_14 (Eq.refl 17) (by decide) ⟨by omega, by omega⟩ (fun c14 => ?_) (fun c14 => ?_)
    · refine Ev.iconst dX8_isAsked_21 (Eq.refl 22) ?_
      exact Ev.zret dX8_isAsked_22 rfl (by first | exact bi01 _ | exact Or.inl rfl | exact Or.inr rfl | omega) (PE.of (by first | exact (bi_f (fun z => c5 z.1)).symm | exact (bi_f (fun z => by have := z.2; omega)).symm | exact (bi_t ⟨c5, by omega⟩).symm))
    · refine Ev.iconst dX8_isAsked_17 (Eq.refl 18) ?_
      refine Ev.goto' (pc' := 22) dX8_isAsked_18 (by decide) ?_
      exact Ev.zret dX8_isAsked_22 rfl (by first | exact bi01 _ | exact Or.inl rfl | exact Or.inr rfl | omega) (PE.of (by first | exact (bi_f (fun z => c5 z.1)).symm | exact (bi_f (fun z => by have := z.2; omega)).symm | exact (bi_t ⟨c5, by omega⟩).symm))
theorem q_missing (M : MS h v) : Ev mX8_missing 3 0 (entL [.ref 0] 3) [] h (PE (missV v) h) := by
  show Ev mX8_missing 3 0 [some (.ref 0), none, none] [] h _
  have B := M.1
  have hR := B.1
  have e1 := B.s1
  have hS14 := B.vk.2.1
  have LOOP : ∀ (m k : Nat), vS v - k = m → k ≤ vS v → Ev mX8_missing 3 4 [some (.ref 0), some (iv (sm (mis v) k)), some (iv (k : Int))] [] h (PE (missV v) h) := by
    intro m
    induction m using Nat.strongRecOn with
    | ind m ih =>
      intro k hm hk
      by_cases hk2 : k < vS v
      · by_cases z : vH v k = true ∧ 0 < vW v k
        · have e : offV v k = mis v k := (if_pos z).symm
          refine Ev.iload_n dX8_missing_4 (Eq.refl 5) rfl ?_
          refine Ev.aload_n dX8_missing_5 (Eq.refl 6) rfl ?_
          refine Ev.getR dX8_missing_6 (Eq.refl 9) fg_X8_13 rfl rfl (rX8_3 hR) ?_
          refine Ev.iconst dX8_missing_9 (Eq.refl 10) ?_
          refine Ev.iaload dX8_missing_10 (Eq.refl 11) rfl rfl (by omega) (by decide) (show (1 : Int).toNat = 1 from rfl) ?_
          rw [e1]
          refine Ev.icmp_ge (tgt := 40) dX8_missing_11 (Eq.refl 14) (by decide) ⟨by omega, by omega⟩ ⟨by omega, by omega⟩ (fun c11 => ?_) (fun c11 => ?_)
          · omega
          · refine Ev.iload_n dX8_missing_14 (Eq.refl 15) rfl ?_
            refine Ev.aload_n dX8_missing_15 (Eq.refl 16) rfl ?_
            refine Ev.iload_n dX8_missing_16 (Eq.refl 17) rfl ?_
            refine Ev.cv1E dX8_missing_17 (Eq.refl 20) cw_X8_178 (Nat.le_of_ble_eq_true rfl) (by decide) rfl rfl rfl (Nat.le_of_ble_eq_true rfl) (q_asked B hk2) ?_
            refine Ev.if_eqB (tgt := 31) dX8_missing_20 (Eq.refl 23) (by decide) (fun c20 => ?_) (fun c20 => ?_)
            · exact absurd z c20
            · refine Ev.aload_n dX8_missing_23 (Eq.refl 24) rfl ?_
              refine Ev.iload_n dX8_missing_24 (Eq.refl 25) rfl ?_
              refine Ev.cv1E dX8_missing_25 (Eq.refl 28) cw_X8_181 (Nat.le_of_ble_eq_true rfl) (by decide) rfl rfl rfl (Nat.le_of_ble_eq_true rfl) (q_off M hk2) ?_
              rw [e]
              refine Ev.goto' (pc' := 32) dX8_missing_28 (by decide) ?_
              refine Ev.iadd dX8_missing_32 (Eq.refl 33) ?_
              refine Ev.is1 dX8_missing_33 (Eq.refl 34) (by decide) rfl ?_
              refine Ev.ii2 dX8_missing_34 (Eq.refl 37) (by decide) rfl ?_
              refine Ev.goto' (pc' := 4) dX8_missing_37 (by decide) ?_
              exact ih _ (by omega) (k + 1) rfl (by omega)
        · have e : sm (mis v) k + 0 = sm (mis v) (k + 1) := by show _ = _ + mis v k; rw [show mis v k = 0 from if_neg z]
          refine Ev.iload_n dX8_missing_4 (Eq.refl 5) rfl ?_
          refine Ev.aload_n dX8_missing_5 (Eq.refl 6) rfl ?_
          refine Ev.getR dX8_missing_6 (Eq.refl 9) fg_X8_13 rfl rfl (rX8_3 hR) ?_
          refine Ev.iconst dX8_missing_9 (Eq.refl 10) ?_
          refine Ev.iaload dX8_missing_10 (Eq.refl 11) rfl rfl (by omega) (by decide) (show (1 : Int).toNat = 1 from rfl) ?_
          rw [e1]
          refine Ev.icmp_ge (tgt := 40) dX8_missing_11 (Eq.refl 14) (by decide) ⟨by omega, by omega⟩ ⟨by omega, by omega⟩ (fun c11 => ?_) (fun c11 => ?_)
          · omega
          · refine Ev.iload_n dX8_missing_14 (Eq.refl 15) rfl ?_
            refine Ev.aload_n dX8_missing_15 (Eq.refl 16) rfl ?_
            refine Ev.iload_n dX8_missing_16 (Eq.refl 17) rfl ?_
            refine Ev.cv1E dX8_missing_17 (Eq.refl 20) cw_X8_178 (Nat.le_of_ble_eq_true rfl) (by decide) rfl rfl rfl (Nat.le_of_ble_eq_true rfl) (q_asked B hk2) ?_
            refine Ev.if_eqB (tgt := 31) dX8_missing_20 (Eq.refl 23) (by decide) (fun c20 => ?_) (fun c20 => ?_)
            · refine Ev.iconst dX8_missing_31 (Eq.refl 32) ?_
              refine Ev.iadd dX8_missing_32 (Eq.refl 33) ?_
              rw [e]
              refine Ev.is1 dX8_missing_33 (Eq.refl 34) (by decide) rfl ?_
              refine Ev.ii2 dX8_missing_34 (Eq.refl 37) (by decide) rfl ?_
              refine Ev.goto' (pc' := 4) dX8_missing_37 (by decide) ?_
              exact ih _ (by omega) (k + 1) rfl (by omega)
            · exact absurd c20 z
      · have e : k = vS v := by omega
        subst e
        refine Ev.iload_n dX8_missing_4 (Eq.refl 5) rfl ?_
        refine Ev.aload_n dX8_missing_5 (Eq.refl 6) rfl ?_
        refine Ev.getR dX8_missing_6 (Eq.refl 9) fg_X8_13 rfl rfl (rX8_3 hR) ?_
        refine Ev.iconst dX8_missing_9 (Eq.refl 10) ?_
        refine Ev.iaload dX8_missing_10 (Eq.refl 11) rfl rfl (by omega) (by decide) (show (1 : Int).toNat = 1 from rfl) ?_
        rw [e1]
        refine Ev.icmp_ge (tgt := 40) dX8_missing_11 (Eq.refl 14) (by decide) ⟨by omega, by omega⟩ ⟨by omega, by omega⟩ (fun c11 => ?_) (fun c11 => ?_)
        · refine Ev.iload_n dX8_missing_40 (Eq.refl 41) rfl ?_
          exact Ev.iret dX8_missing_41 rfl (PE.mk)
        · omega
  refine Ev.iconst dX8_missing_0 (Eq.refl 1) ?_
  refine Ev.is1 dX8_missing_1 (Eq.refl 2) (by decide) rfl ?_
  refine Ev.iconst dX8_missing_2 (Eq.refl 3) ?_
  refine Ev.is2 dX8_missing_3 (Eq.refl 4) (by decide) rfl ?_
  exact LOOP _ 0 rfl (by omega)
theorem q_hanging (B : MB h v) : Ev mX8_hanging 2 0 (entL [.ref 0] 3) [] h (PE (cnt (vH v) (vS v) : Nat) h) := by
  show Ev mX8_hanging 2 0 [some (.ref 0), none, none] [] h _
  have hR := B.1
  have e1 := B.s1
  have hS14 := B.vk.2.1
  have LOOP : ∀ (m k : Nat), vS v - k = m → k ≤ vS v → Ev mX8_hanging 2 4 [some (.ref 0), some (iv (cnt (vH v) k : Nat)), some (iv (k : Int))] [] h (PE (cnt (vH v) (vS v) : Nat) h) := by
    intro m
    induction m using Nat.strongRecOn with
    | ind m ih =>
      intro k hm hk
      by_cases hk2 : k < vS v
      · by_cases z : vH v k = true
        · have e : ((cnt (vH v) k : Nat) : Int) + 1 = (cnt (vH v) (k + 1) : Nat) := by rw [cnt_s z]; push_cast; rfl
          refine Ev.iload_n dX8_hanging_4 (Eq.refl 5) rfl ?_
          refine Ev.aload_n dX8_hanging_5 (Eq.refl 6) rfl ?_
          refine Ev.getR dX8_hanging_6 (Eq.refl 9) fg_X8_13 rfl rfl (rX8_3 hR) ?_
          refine Ev.iconst dX8_hanging_9 (Eq.refl 10) ?_
          refine Ev.iaload dX8_hanging_10 (Eq.refl 11) rfl rfl (by omega) (by decide) (show (1 : Int).toNat = 1 from rfl) ?_
          rw [e1]
          refine Ev.icmp_ge (tgt := 36) dX8_hanging_11 (Eq.refl 14) (by decide) ⟨by omega, by omega⟩ ⟨by omega, by omega⟩ (fun c11 => ?_) (fun c11 => ?_)
          · omega
          · refine Ev.iload_n dX8_hanging_14 (Eq.refl 15) rfl ?_
            refine Ev.aload_n dX8_hanging_15 (Eq.refl 16) rfl ?_
            refine Ev.iload_n dX8_hanging_16 (Eq.refl 17) rfl ?_
            refine Ev.cv1E dX8_hanging_17 (Eq.refl 20) cw_X8_137 (Nat.le_of_ble_eq_true rfl) (by decide) rfl rfl rfl (Nat.le_of_ble_eq_true rfl) (q_hangs B hk2) ?_
            refine Ev.if_eqB (tgt := 27) dX8_hanging_20 (Eq.refl 23) (by decide) (fun c20 => ?_) (fun c20 => ?_)
            · exact absurd z c20
            · refine Ev.iconst dX8_hanging_23 (Eq.refl 24) ?_
              refine Ev.goto' (pc' := 28) dX8_hanging_24 (by decide) ?_
              refine Ev.iadd dX8_hanging_28 (Eq.refl 29) ?_
              rw [e]
              refine Ev.is1 dX8_hanging_29 (Eq.refl 30) (by decide) rfl ?_
              refine Ev.ii2 dX8_hanging_30 (Eq.refl 33) (by decide) rfl ?_
              refine Ev.goto' (pc' := 4) dX8_hanging_33 (by decide) ?_
              exact ih _ (by omega) (k + 1) rfl (by omega)
        · have e : ((cnt (vH v) k : Nat) : Int) + 0 = (cnt (vH v) (k + 1) : Nat) := by rw [cnt_n (by cases y : vH v k with | false => rfl | true => exact absurd y z)]; omega
          refine Ev.iload_n dX8_hanging_4 (Eq.refl 5) rfl ?_
          refine Ev.aload_n dX8_hanging_5 (Eq.refl 6) rfl ?_
          refine Ev.getR dX8_hanging_6 (Eq.refl 9) fg_X8_13 rfl rfl (rX8_3 hR) ?_
          refine Ev.iconst dX8_hanging_9 (Eq.refl 10) ?_
          refine Ev.iaload dX8_hanging_10 (Eq.refl 11) rfl rfl (by omega) (by decide) (show (1 : Int).toNat = 1 from rfl) ?_
          rw [e1]
          refine Ev.icmp_ge (tgt := 36) dX8_hanging_11 (Eq.refl 14) (by decide) ⟨by omega, by omega⟩ ⟨by omega, by omega⟩ (fun c11 => ?_) (fun c11 => ?_)
          · omega
          · refine Ev.iload_n dX8_hanging_14 (Eq.refl 15) rfl ?_
            refine Ev.aload_n dX8_hanging_15 (Eq.refl 16) rfl ?_
            refine Ev.iload_n dX8_hanging_16 (Eq.refl 17) rfl ?_
            refine Ev.cv1E dX8_hanging_17 (Eq.refl 20) cw_X8_137 (Nat.le_of_ble_eq_true rfl) (by decide) rfl rfl rfl (Nat.le_of_ble_eq_true rfl) (q_hangs B hk2) ?_
            refine Ev.if_eqB (tgt := 27) dX8_hanging_20 (Eq.refl 23) (by decide) (fun c20 => ?_) (fun c20 => ?_)
            · refine Ev.iconst dX8_hanging_27 (Eq.refl 28) ?_
              refine Ev.iadd dX8_hanging_28 (Eq.refl 29) ?_
              rw [e]
              refine Ev.is1 dX8_hanging_29 (Eq.refl 30) (by decide) rfl ?_
              refine Ev.ii2 dX8_hanging_30 (Eq.refl 33) (by decide) rfl ?_
              refine Ev.goto' (pc' := 4) dX8_hanging_33 (by decide) ?_
              exact ih _ (by omega) (k + 1) rfl (by omega)
            · exact absurd c20 z
      · have e : k = vS v := by omega
        subst e
        refine Ev.iload_n dX8_hanging_4 (Eq.refl 5) rfl ?_
        refine Ev.aload_n dX8_hanging_5 (Eq.refl 6) rfl ?_
        refine Ev.getR dX8_hanging_6 (Eq.refl 9) fg_X8_13 rfl rfl (rX8_3 hR) ?_
        refine Ev.iconst dX8_hanging_9 (Eq.refl 10) ?_
        refine Ev.iaload dX8_hanging_10 (Eq.refl 11) rfl rfl (by omega) (by decide) (show (1 : Int).toNat = 1 from rfl) ?_
        rw [e1]
        refine Ev.icmp_ge (tgt := 36) dX8_hanging_11 (Eq.refl 14) (by decide) ⟨by omega, by omega⟩ ⟨by omega, by omega⟩ (fun c11 => ?_) (fun c11 => ?_)
        · refine Ev.iload_n dX8_hanging_36 (Eq.refl 37) rfl ?_
          exact Ev.iret dX8_hanging_37 rfl (PE.mk)
        · omega
  refine Ev.iconst dX8_hanging_0 (Eq.refl 1) ?_
  refine Ev.is1 dX8_hanging_1 (Eq.refl 2) (by decide) rfl ?_
  refine Ev.iconst dX8_hanging_2 (Eq.refl 3) ?_
  refine Ev.is2 dX8_hanging_3 (Eq.refl 4) (by decide) rfl ?_
  exact LOOP _ 0 rfl (by omega)
theorem or0 {x : Int} (hx : 0 ≤ x) : ((x.toNat ||| (0 : Int).toNat : Nat) : Int) = x := by
  have : x.toNat ||| 0 = x.toNat := Nat.or_zero _
  show ((x.toNat ||| 0 : Nat) : Int) = x
  rw [this]; omega
theorem q_bitsOf {j : Nat} (B : MB h v) (hj : j < vJ v) : Ev mX8_bitsOf 2 0 (entL [.ref 0, iv (j : Int)] 4) [] h (PE (bits (fun i => i < vS v ∧ atH v j i)) h) := by
  show Ev mX8_bitsOf 2 0 [some (.ref 0), some (iv (j : Int)), none, none] [] h _
  have hR := B.1
  have e1 := B.s1
  have hJ := B.vk.1
  have hS14 := B.vk.2.1
  have LOOP : ∀ (m k : Nat) (x : Int), vS v - k = m → k ≤ vS v → (0 ≤ x ∧ x < 2 ^ k ∧ ∀ i, tb x i ↔ i < k ∧ atH v j i) → Ev mX8_bitsOf 2 4 [some (.ref 0), some (iv (j : Int)), some (iv x), some (iv (k : Int))] [] h (PE (bits (fun i => i < vS v ∧ atH v j i)) h) := by
    intro m
    induction m using Nat.strongRecOn with
    | ind m ih =>
      intro k x hm hk hx
      have hx0 := hx.1
      by_cases hk2 : k < vS v
      · have nx : ¬ atH v j k → Ev mX8_bitsOf 2 4 [some (.ref 0), some (iv (j : Int)), some (iv x), some (iv ((k : Int) + 1))] [] h (PE (bits (fun i => i < vS v ∧ atH v j i)) h) := fun q => ih _ (by omega) (k + 1) x rfl (by omega) (isB_n hx q)
        have eo := or0 hx0
        refine Ev.iload_n dX8_bitsOf_4 (Eq.refl 5) rfl ?_
        refine Ev.aload_n dX8_bitsOf_5 (Eq.refl 6) rfl ?_
        refine Ev.getR dX8_bitsOf_6 (Eq.refl 9) fg_X8_13 rfl rfl (rX8_3 hR) ?_
        refine Ev.iconst dX8_bitsOf_9 (Eq.refl 10) ?_
        refine Ev.iaload dX8_bitsOf_10 (Eq.refl 11) rfl rfl (by omega) (by decide) (show (1 : Int).toNat = 1 from rfl) ?_
        rw [e1]
        refine Ev.icmp_ge (tgt := 47) dX8_bitsOf_11 (Eq.refl 14) (by decide) ⟨by omega, by omega⟩ ⟨by omega, by omega⟩ (fun c11 => ?_) (fun c11 => ?_)
        · omega
        · refine Ev.iload_n dX8_bitsOf_14 (Eq.refl 15) rfl ?_
          refine Ev.aload_n dX8_bitsOf_15 (Eq.refl 16) rfl ?_
          refine Ev.iload_n dX8_bitsOf_16 (Eq.refl 17) rfl ?_
          refine Ev.cv1E dX8_bitsOf_17 (Eq.refl 20) cw_X8_137 (Nat.le_of_ble_eq_true rfl) (by decide) rfl rfl rfl (Nat.le_of_ble_eq_true rfl) (q_hangs B hk2) ?_
          refine Ev.if_eqB (tgt := 38) dX8_bitsOf_20 (Eq.refl 23) (by decide) (fun c20 => ?_) (fun c20 => ?_)
          · have q : ¬ atH v j k := fun z => c20 z.1
            refine Ev.iconst dX8_bitsOf_38 (Eq.refl 39) ?_
            refine Ev.ior dX8_bitsOf_39 (Eq.refl 40) (b_or (by first | exact Int.natCast_nonneg _ | exact shl0 | omega) (by first | exact Int.natCast_nonneg _ | exact shl0 | omega)) ?_
            refine Ev.is2 dX8_bitsOf_40 (Eq.refl 41) (by decide) rfl ?_
            refine Ev.ii3 dX8_bitsOf_41 (Eq.refl 44) (by decide) rfl ?_
            refine Ev.goto' (pc' := 4) dX8_bitsOf_44 (by decide) ?_
            first | exact ih _ (by omega) (k + 1) _ rfl (by omega) (isB_s hx ⟨c20, c29⟩) | (rw [eo]; exact nx q)
          · refine Ev.aload_n dX8_bitsOf_23 (Eq.refl 24) rfl ?_
            refine Ev.iload_n dX8_bitsOf_24 (Eq.refl 25) rfl ?_
            refine Ev.iload_n dX8_bitsOf_25 (Eq.refl 26) rfl ?_
            refine Ev.cv2E dX8_bitsOf_26 (Eq.refl 29) cw_X8_184 (Nat.le_of_ble_eq_true rfl) (by decide) rfl rfl rfl (Nat.le_of_ble_eq_true rfl) (q_isOf B hk2 (by omega)) ?_
            refine Ev.if_eqB (tgt := 38) dX8_bitsOf_29 (Eq.refl 32) (by decide) (fun c29 => ?_) (fun c29 => ?_)
            · have q : ¬ atH v j k := fun z => c29 z.2
              refine Ev.iconst dX8_bitsOf_38 (Eq.refl 39) ?_
              refine Ev.ior dX8_bitsOf_39 (Eq.refl 40) (b_or (by first | exact Int.natCast_nonneg _ | exact shl0 | omega) (by first | exact Int.natCast_nonneg _ | exact shl0 | omega)) ?_
              refine Ev.is2 dX8_bitsOf_40 (Eq.refl 41) (by decide) rfl ?_
              refine Ev.ii3 dX8_bitsOf_41 (Eq.refl 44) (by decide) rfl ?_
              refine Ev.goto' (pc' := 4) dX8_bitsOf_44 (by decide) ?_
              first | exact ih _ (by omega) (k + 1) _ rfl (by omega) (isB_s hx ⟨c20, c29⟩) | (rw [eo]; exact nx q)
            · refine Ev.iconst dX8_bitsOf_32 (Eq.refl 33) ?_
              refine Ev.iload_n dX8_bitsOf_33 (Eq.refl 34) rfl ?_
              refine Ev.ishl dX8_bitsOf_34 (Eq.refl 35) (b_shl (by omega) (by omega) (by omega) (shl1 (by omega))) ?_
              rw [Int.toNat_natCast]
              refine Ev.goto' (pc' := 39) dX8_bitsOf_35 (by decide) ?_
              refine Ev.ior dX8_bitsOf_39 (Eq.refl 40) (b_or (by first | exact Int.natCast_nonneg _ | exact shl0 | omega) (by first | exact Int.natCast_nonneg _ | exact shl0 | omega)) ?_
              refine Ev.is2 dX8_bitsOf_40 (Eq.refl 41) (by decide) rfl ?_
              refine Ev.ii3 dX8_bitsOf_41 (Eq.refl 44) (by decide) rfl ?_
              refine Ev.goto' (pc' := 4) dX8_bitsOf_44 (by decide) ?_
              first | exact ih _ (by omega) (k + 1) _ rfl (by omega) (isB_s hx ⟨c20, c29⟩) | (rw [eo]; exact nx q)
      · have e : k = vS v := by omega
        subst e
        refine Ev.iload_n dX8_bitsOf_4 (Eq.refl 5) rfl ?_
        refine Ev.aload_n dX8_bitsOf_5 (Eq.refl 6) rfl ?_
        refine Ev.getR dX8_bitsOf_6 (Eq.refl 9) fg_X8_13 rfl rfl (rX8_3 hR) ?_
        refine Ev.iconst dX8_bitsOf_9 (Eq.refl 10) ?_
        refine Ev.iaload dX8_bitsOf_10 (Eq.refl 11) rfl rfl (by omega) (by decide) (show (1 : Int).toNat = 1 from rfl) ?_
        rw [e1]
        refine Ev.icmp_ge (tgt := 47) dX8_bitsOf_11 (Eq.refl 14) (by decide) ⟨by omega, by omega⟩ ⟨by omega, by omega⟩ (fun c11 => ?_) (fun c11 => ?_)
        · refine Ev.iload_n dX8_bitsOf_47 (Eq.refl 48) rfl ?_
          exact Ev.iret dX8_bitsOf_48 rfl (PE.of (bits_of hx0 hx.2.2).symm)
        · omega
  refine Ev.iconst dX8_bitsOf_0 (Eq.refl 1) ?_
  refine Ev.is2 dX8_bitsOf_1 (Eq.refl 2) (by decide) rfl ?_
  refine Ev.iconst dX8_bitsOf_2 (Eq.refl 3) ?_
  refine Ev.is3 dX8_bitsOf_3 (Eq.refl 4) (by decide) rfl ?_
  exact LOOP _ 0 0 rfl (by omega) ⟨by omega, by decide, fun s => by simp⟩
theorem q_within {j : Nat} (M : MS h v) (hj : j < vJ v) : Ev mX8_isWithin 2 0 (entL [.ref 0, iv (j : Int)] 9) [] h (PE (bi (∀ a, a < 3 → btw v j a)) h) := by
  show Ev mX8_isWithin 2 0 [some (.ref 0), some (iv (j : Int)), none, none, none, none, none, none, none] [] h _
  obtain ⟨B, ha, hy⟩ := M
  have hR := B.1
  have e1 := B.s1
  have hv := B.vk
  have hJ := hv.1
  have hS14 := hv.2.1
  have OUT : ∀ (m a : Nat) (y : Int) (l4 l5 l6 l7 : Option Value), 3 - a = m → a ≤ 3 → y = bi (∀ i, i < a → btw v j i) → Ev mX8_isWithin 2 4 [some (.ref 0), some (iv (j : Int)), some (iv y), some (iv (a : Int)), l4, l5, l6, l7, none] [] h (PE (bi (∀ a, a < 3 → btw v j a)) h) := by
    intro m
    induction m using Nat.strongRecOn with
    | ind m ih =>
      intro a y l4 l5 l6 l7 hm ha3 hyy
      have y01 := bi01 (∀ i, i < a → btw v j i)
      rw [← hyy] at y01
      by_cases a3 : a < 3
      · have zj := zA_64 hv ha hj a3
        have ej := (hy.2 j a hj a3).1
        have qj : ((3 : Int) * (j : Int) + (a : Int)).toNat = 3 * j + a := by omega
        have IN : ∀ (m2 k : Nat) (p q : Int) (l7 : Option Value), vS v - k = m2 → k ≤ vS v → p = bi (∃ i, i < k ∧ (atH v j i ∧ zA v (oth v i j) a ≤ zA v j a)) → q = bi (∃ i, i < k ∧ (atH v j i ∧ zA v j a ≤ zA v (oth v i j) a)) → Ev mX8_isWithin 2 18 [some (.ref 0), some (iv (j : Int)), some (iv y), some (iv (a : Int)), some (iv p), some (iv q), some (iv (k : Int)), l7, none] [] h (PE (bi (∀ a, a < 3 → btw v j a)) h) := by
          intro m2
          induction m2 using Nat.strongRecOn with
          | ind m2 ih2 =>
            intro k p q l7 hm2 hk hp hq
            have p01 := bi01 (∃ i, i < k ∧ (atH v j i ∧ zA v (oth v i j) a ≤ zA v j a))
            have q01 := bi01 (∃ i, i < k ∧ (atH v j i ∧ zA v j a ≤ zA v (oth v i j) a))
            rw [← hp] at p01
            rw [← hq] at q01
            by_cases hk2 : k < vS v
            · have ol := oth_lt (j := j) hv hk2
              have zo := zA_64 hv ha ol a3
              have eo := (hy.2 _ a ol a3).1
              have qo : ((3 : Int) * (oth v k j : Int) + (a : Int)).toNat = 3 * oth v k j + a := by omega
              refine Ev.iload dX8_isWithin_18 (Eq.refl 20) rfl ?_
              refine Ev.aload_n dX8_isWithin_20 (Eq.refl 21) rfl ?_
              refine Ev.getR dX8_isWithin_21 (Eq.refl 24) fg_X8_13 rfl rfl (rX8_3 hR) ?_
              refine Ev.iconst dX8_isWithin_24 (Eq.refl 25) ?_
              refine Ev.iaload dX8_isWithin_25 (Eq.refl 26) rfl rfl (by omega) (by decide) (show (1 : Int).toNat = 1 from rfl) ?_
              rw [e1]
              refine Ev.icmp_ge (tgt := 128) dX8_isWithin_26 (Eq.refl 29) (by decide) ⟨by omega, by omega⟩ ⟨by omega, by omega⟩ (fun c26 => ?_) (fun c26 => ?_)
              · omega
              · refine Ev.aload_n dX8_isWithin_29 (Eq.refl 30) rfl ?_
                refine Ev.iload dX8_isWithin_30 (Eq.refl 32) rfl ?_
                refine Ev.cv1E dX8_isWithin_32 (Eq.refl 35) cw_X8_137 (Nat.le_of_ble_eq_true rfl) (by decide) rfl rfl rfl (Nat.le_of_ble_eq_true rfl) (q_hangs B hk2) ?_
                refine Ev.if_eqB (tgt := 122) dX8_isWithin_35 (Eq.refl 38) (by decide) (fun c35 => ?_) (fun c35 => ?_)
                · have hnt : ¬ atH v j k := fun z => c35 z.1
                  refine Ev.ii6 dX8_isWithin_122 (Eq.refl 125) (by decide) rfl ?_
                  refine Ev.goto' (pc' := 18) dX8_isWithin_125 (by decide) ?_
                  exact ih2 _ (by omega) (k + 1) _ _ _ rfl (by omega) (by first | exact ex_s hp (fun z => hnt z.1) | exact ex_t ⟨hat, by omega⟩ | exact ex_u hp c68 | exact (by omega : p = 0) ▸ ex_s hp (fun z => by have := z.2; omega)) (by first | exact ex_s hq (fun z => hnt z.1) | exact ex_t ⟨hat, by omega⟩ | exact ex_u hq c96 | exact (by omega : q = 0) ▸ ex_s hq (fun z => by have := z.2; omega))
                · refine Ev.aload_n dX8_isWithin_38 (Eq.refl 39) rfl ?_
                  refine Ev.iload dX8_isWithin_39 (Eq.refl 41) rfl ?_
                  refine Ev.iload_n dX8_isWithin_41 (Eq.refl 42) rfl ?_
                  refine Ev.cv2E dX8_isWithin_42 (Eq.refl 45) cw_X8_184 (Nat.le_of_ble_eq_true rfl) (by decide) rfl rfl rfl (Nat.le_of_ble_eq_true rfl) (q_isOf B hk2 (by omega)) ?_
                  refine Ev.if_eqB (tgt := 122) dX8_isWithin_45 (Eq.refl 48) (by decide) (fun c45 => ?_) (fun c45 => ?_)
                  · have hnt : ¬ atH v j k := fun z => c45 z.2
                    refine Ev.ii6 dX8_isWithin_122 (Eq.refl 125) (by decide) rfl ?_
                    refine Ev.goto' (pc' := 18) dX8_isWithin_125 (by decide) ?_
                    exact ih2 _ (by omega) (k + 1) _ _ _ rfl (by omega) (by first | exact ex_s hp (fun z => hnt z.1) | exact ex_t ⟨hat, by omega⟩ | exact ex_u hp c68 | exact (by omega : p = 0) ▸ ex_s hp (fun z => by have := z.2; omega)) (by first | exact ex_s hq (fun z => hnt z.1) | exact ex_t ⟨hat, by omega⟩ | exact ex_u hq c96 | exact (by omega : q = 0) ▸ ex_s hq (fun z => by have := z.2; omega))
                  · have hat : atH v j k := ⟨c35, c45⟩
                    refine Ev.aload_n dX8_isWithin_48 (Eq.refl 49) rfl ?_
                    refine Ev.getR dX8_isWithin_49 (Eq.refl 52) fg_X8_40 rfl rfl (rX8_16 hR) ?_
                    refine Ev.iconst dX8_isWithin_52 (Eq.refl 53) ?_
                    refine Ev.aload_n dX8_isWithin_53 (Eq.refl 54) rfl ?_
                    refine Ev.iload dX8_isWithin_54 (Eq.refl 56) rfl ?_
                    refine Ev.iload_n dX8_isWithin_56 (Eq.refl 57) rfl ?_
                    refine Ev.cv2E dX8_isWithin_57 (Eq.refl 60) cw_X8_147 (Nat.le_of_ble_eq_true rfl) (by decide) rfl rfl rfl (Nat.le_of_ble_eq_true rfl) (q_other B hk2 (by omega)) ?_
                    refine Ev.imul dX8_isWithin_60 (Eq.refl 61) ?_
                    refine Ev.iload_n dX8_isWithin_61 (Eq.refl 62) rfl ?_
                    refine Ev.iadd dX8_isWithin_62 (Eq.refl 63) ?_
                    refine Ev.laload dX8_isWithin_63 (Eq.refl 64) rfl rfl (by omega) (by decide) qo ?_
                    rw [eo]
                    refine Ev.ls7 dX8_isWithin_64 (Eq.refl 66) (by decide) rfl ?_
                    refine Ev.iload dX8_isWithin_66 (Eq.refl 68) rfl ?_
                    refine Ev.if_ne (tgt := 87) dX8_isWithin_68 (Eq.refl 71) (by decide) ⟨by omega, by omega⟩ (fun c68 => ?_) (fun c68 => ?_)
                    · refine Ev.iconst dX8_isWithin_87 (Eq.refl 88) ?_
                      refine Ev.goto' (pc' := 92) dX8_isWithin_88 (by decide) ?_
                      refine Ev.is4 dX8_isWithin_92 (Eq.refl 94) (by decide) rfl ?_
                      refine Ev.iload dX8_isWithin_94 (Eq.refl 96) rfl ?_
                      refine Ev.if_ne (tgt := 115) dX8_isWithin_96 (Eq.refl 99) (by decide) ⟨by omega, by omega⟩ (fun c96 => ?_) (fun c96 => ?_)
                      · refine Ev.iconst dX8_isWithin_115 (Eq.refl 116) ?_
                        refine Ev.goto' (pc' := 120) dX8_isWithin_116 (by decide) ?_
                        refine Ev.is5 dX8_isWithin_120 (Eq.refl 122) (by decide) rfl ?_
                        refine Ev.ii6 dX8_isWithin_122 (Eq.refl 125) (by decide) rfl ?_
                        refine Ev.goto' (pc' := 18) dX8_isWithin_125 (by decide) ?_
                        exact ih2 _ (by omega) (k + 1) _ _ _ rfl (by omega) (by first | exact ex_s hp (fun z => hnt z.1) | exact ex_t ⟨hat, by omega⟩ | exact ex_u hp c68 | exact (by omega : p = 0) ▸ ex_s hp (fun z => by have := z.2; omega)) (by first | exact ex_s hq (fun z => hnt z.1) | exact ex_t ⟨hat, by omega⟩ | exact ex_u hq c96 | exact (by omega : q = 0) ▸ ex_s hq (fun z => by have := z.2; omega))
                      · refine Ev.lload dX8_isWithin_99 (Eq.refl 101) rfl ?_
                        refine Ev.aload_n dX8_isWithin_101 (Eq.refl 102) rfl ?_
                        refine Ev.getR dX8_isWithin_102 (Eq.refl 105) fg_X8_40 rfl rfl (rX8_16 hR) ?_
                        refine Ev.iconst dX8_isWithin_105 (Eq.refl 106) ?_
                        refine Ev.iload_n dX8_isWithin_106 (Eq.refl 107) rfl ?_
                        refine Ev.imul dX8_isWithin_107 (Eq.refl 108) ?_
                        refine Ev.iload_n dX8_isWithin_108 (Eq.refl 109) rfl ?_
                        refine Ev.iadd dX8_isWithin_109 (Eq.refl 110) ?_
                        refine Ev.laload dX8_isWithin_110 (Eq.refl 111) rfl rfl (by omega) (by decide) qj ?_
                        rw [ej]
                        refine Ev.ifl_lt (tgt := 119) dX8_isWithin_111 (Eq.refl 112) dX8_isWithin_112 (Eq.refl 115) (by decide) zo zj (fun c111 => ?_) (fun c111 => ?_)
                        · refine Ev.iconst dX8_isWithin_119 (Eq.refl 120) ?_
                          refine Ev.is5 dX8_isWithin_120 (Eq.refl 122) (by decide) rfl ?_
                          refine Ev.ii6 dX8_isWithin_122 (Eq.refl 125) (by decide) rfl ?_
                          refine Ev.goto' (pc' := 18) dX8_isWithin_125 (by decide) ?_
                          exact ih2 _ (by omega) (k + 1) _ _ _ rfl (by omega) (by first | exact ex_s hp (fun z => hnt z.1) | exact ex_t ⟨hat, by omega⟩ | exact ex_u hp c68 | exact (by omega : p = 0) ▸ ex_s hp (fun z => by have := z.2; omega)) (by first | exact ex_s hq (fun z => hnt z.1) | exact ex_t ⟨hat, by omega⟩ | exact ex_u hq c96 | exact (by omega : q = 0) ▸ ex_s hq (fun z => by have := z.2; omega))
                        · refine Ev.iconst dX8_isWithin_115 (Eq.refl 116) ?_
                          refine Ev.goto' (pc' := 120) dX8_isWithin_116 (by decide) ?_
                          refine Ev.is5 dX8_isWithin_120 (Eq.refl 122) (by decide) rfl ?_
                          refine Ev.ii6 dX8_isWithin_122 (Eq.refl 125) (by decide) rfl ?_
                          refine Ev.goto' (pc' := 18) dX8_isWithin_125 (by decide) ?_
                          exact ih2 _ (by omega) (k + 1) _ _ _ rfl (by omega) (by first | exact ex_s hp (fun z => hnt z.1) | exact ex_t ⟨hat, by omega⟩ | exact ex_u hp c68 | exact (by omega : p = 0) ▸ ex_s hp (fun z => by have := z.2; omega)) (by first | exact ex_s hq (fun z => hnt z.1) | exact ex_t ⟨hat, by omega⟩ | exact ex_u hq c96 | exact (by omega : q = 0) ▸ ex_s hq (fun z => by have := z.2; omega))
                    · refine Ev.lload dX8_isWithin_71 (Eq.refl 73) rfl ?_
                      refine Ev.aload_n dX8_isWithin_73 (Eq.refl 74) rfl ?_
                      refine Ev.getR dX8_isWithin_74 (Eq.refl 77) fg_X8_40 rfl rfl (rX8_16 hR) ?_
                      refine Ev.iconst dX8_isWithin_77 (Eq.refl 78) ?_
                      refine Ev.iload_n dX8_isWithin_78 (Eq.refl 79) rfl ?_
                      refine Ev.imul dX8_isWithin_79 (Eq.refl 80) ?_
                      refine Ev.iload_n dX8_isWithin_80 (Eq.refl 81) rfl ?_
                      refine Ev.iadd dX8_isWithin_81 (Eq.refl 82) ?_
                      refine Ev.laload dX8_isWithin_82 (Eq.refl 83) rfl rfl (by omega) (by decide) qj ?_
                      rw [ej]
                      refine Ev.ifl_gt (tgt := 91) dX8_isWithin_83 (Eq.refl 84) dX8_isWithin_84 (Eq.refl 87) (by decide) zo zj (fun c83 => ?_) (fun c83 => ?_)
                      · refine Ev.iconst dX8_isWithin_91 (Eq.refl 92) ?_
                        refine Ev.is4 dX8_isWithin_92 (Eq.refl 94) (by decide) rfl ?_
                        refine Ev.iload dX8_isWithin_94 (Eq.refl 96) rfl ?_
                        refine Ev.if_ne (tgt := 115) dX8_isWithin_96 (Eq.refl 99) (by decide) ⟨by omega, by omega⟩ (fun c96 => ?_) (fun c96 => ?_)
                        · refine Ev.iconst dX8_isWithin_115 (Eq.refl 116) ?_
                          refine Ev.goto' (pc' := 120) dX8_isWithin_116 (by decide) ?_
                          refine Ev.is5 dX8_isWithin_120 (Eq.refl 122) (by decide) rfl ?_
                          refine Ev.ii6 dX8_isWithin_122 (Eq.refl 125) (by decide) rfl ?_
                          refine Ev.goto' (pc' := 18) dX8_isWithin_125 (by decide) ?_
                          exact ih2 _ (by omega) (k + 1) _ _ _ rfl (by omega) (by first | exact ex_s hp (fun z => hnt z.1) | exact ex_t ⟨hat, by omega⟩ | exact ex_u hp c68 | exact (by omega : p = 0) ▸ ex_s hp (fun z => by have := z.2; omega)) (by first | exact ex_s hq (fun z => hnt z.1) | exact ex_t ⟨hat, by omega⟩ | exact ex_u hq c96 | exact (by omega : q = 0) ▸ ex_s hq (fun z => by have := z.2; omega))
                        · refine Ev.lload dX8_isWithin_99 (Eq.refl 101) rfl ?_
                          refine Ev.aload_n dX8_isWithin_101 (Eq.refl 102) rfl ?_
                          refine Ev.getR dX8_isWithin_102 (Eq.refl 105) fg_X8_40 rfl rfl (rX8_16 hR) ?_
                          refine Ev.iconst dX8_isWithin_105 (Eq.refl 106) ?_
                          refine Ev.iload_n dX8_isWithin_106 (Eq.refl 107) rfl ?_
                          refine Ev.imul dX8_isWithin_107 (Eq.refl 108) ?_
                          refine Ev.iload_n dX8_isWithin_108 (Eq.refl 109) rfl ?_
                          refine Ev.iadd dX8_isWithin_109 (Eq.refl 110) ?_
                          refine Ev.laload dX8_isWithin_110 (Eq.refl 111) rfl rfl (by omega) (by decide) qj ?_
                          rw [ej]
                          refine Ev.ifl_lt (tgt := 119) dX8_isWithin_111 (Eq.refl 112) dX8_isWithin_112 (Eq.refl 115) (by decide) zo zj (fun c111 => ?_) (fun c111 => ?_)
                          · refine Ev.iconst dX8_isWithin_119 (Eq.refl 120) ?_
                            refine Ev.is5 dX8_isWithin_120 (Eq.refl 122) (by decide) rfl ?_
                            refine Ev.ii6 dX8_isWithin_122 (Eq.refl 125) (by decide) rfl ?_
                            refine Ev.goto' (pc' := 18) dX8_isWithin_125 (by decide) ?_
                            exact ih2 _ (by omega) (k + 1) _ _ _ rfl (by omega) (by first | exact ex_s hp (fun z => hnt z.1) | exact ex_t ⟨hat, by omega⟩ | exact ex_u hp c68 | exact (by omega : p = 0) ▸ ex_s hp (fun z => by have := z.2; omega)) (by first | exact ex_s hq (fun z => hnt z.1) | exact ex_t ⟨hat, by omega⟩ | exact ex_u hq c96 | exact (by omega : q = 0) ▸ ex_s hq (fun z => by have := z.2; omega))
                          · refine Ev.iconst dX8_isWithin_115 (Eq.refl 116) ?_
                            refine Ev.goto' (pc' := 120) dX8_isWithin_116 (by decide) ?_
                            refine Ev.is5 dX8_isWithin_120 (Eq.refl 122) (by decide) rfl ?_
                            refine Ev.ii6 dX8_isWithin_122 (Eq.refl 125) (by decide) rfl ?_
                            refine Ev.goto' (pc' := 18) dX8_isWithin_125 (by decide) ?_
                            exact ih2 _ (by omega) (k + 1) _ _ _ rfl (by omega) (by first | exact ex_s hp (fun z => hnt z.1) | exact ex_t ⟨hat, by omega⟩ | exact ex_u hp c68 | exact (by omega : p = 0) ▸ ex_s hp (fun z => by have := z.2; omega)) (by first | exact ex_s hq (fun z => hnt z.1) | exact ex_t ⟨hat, by omega⟩ | exact ex_u hq c96 | exact (by omega : q = 0) ▸ ex_s hq (fun z => by have := z.2; omega))
                      · refine Ev.iconst dX8_isWithin_87 (Eq.refl 88) ?_
                        refine Ev.goto' (pc' := 92) dX8_isWithin_88 (by decide) ?_
                        refine Ev.is4 dX8_isWithin_92 (Eq.refl 94) (by decide) rfl ?_
                        refine Ev.iload dX8_isWithin_94 (Eq.refl 96) rfl ?_
                        refine Ev.if_ne (tgt := 115) dX8_isWithin_96 (Eq.refl 99) (by decide) ⟨by omega, by omega⟩ (fun c96 => ?_) (fun c96 => ?_)
                        · refine Ev.iconst dX8_isWithin_115 (Eq.refl 116) ?_
                          refine Ev.goto' (pc' := 120) dX8_isWithin_116 (by decide) ?_
                          refine Ev.is5 dX8_isWithin_120 (Eq.refl 122) (by decide) rfl ?_
                          refine Ev.ii6 dX8_isWithin_122 (Eq.refl 125) (by decide) rfl ?_
                          refine Ev.goto' (pc' := 18) dX8_isWithin_125 (by decide) ?_
                          exact ih2 _ (by omega) (k + 1) _ _ _ rfl (by omega) (by first | exact ex_s hp (fun z => hnt z.1) | exact ex_t ⟨hat, by omega⟩ | exact ex_u hp c68 | exact (by omega : p = 0) ▸ ex_s hp (fun z => by have := z.2; omega)) (by first | exact ex_s hq (fun z => hnt z.1) | exact ex_t ⟨hat, by omega⟩ | exact ex_u hq c96 | exact (by omega : q = 0) ▸ ex_s hq (fun z => by have := z.2; omega))
                        · refine Ev.lload dX8_isWithin_99 (Eq.refl 101) rfl ?_
                          refine Ev.aload_n dX8_isWithin_101 (Eq.refl 102) rfl ?_
                          refine Ev.getR dX8_isWithin_102 (Eq.refl 105) fg_X8_40 rfl rfl (rX8_16 hR) ?_
                          refine Ev.iconst dX8_isWithin_105 (Eq.refl 106) ?_
                          refine Ev.iload_n dX8_isWithin_106 (Eq.refl 107) rfl ?_
                          refine Ev.imul dX8_isWithin_107 (Eq.refl 108) ?_
                          refine Ev.iload_n dX8_isWithin_108 (Eq.refl 109) rfl ?_
                          refine Ev.iadd dX8_isWithin_109 (Eq.refl 110) ?_
                          refine Ev.laload dX8_isWithin_110 (Eq.refl 111) rfl rfl (by omega) (by decide) qj ?_
                          rw [ej]
                          refine Ev.ifl_lt (tgt := 119) dX8_isWithin_111 (Eq.refl 112) dX8_isWithin_112 (Eq.refl 115) (by decide) zo zj (fun c111 => ?_) (fun c111 => ?_)
                          · refine Ev.iconst dX8_isWithin_119 (Eq.refl 120) ?_
                            refine Ev.is5 dX8_isWithin_120 (Eq.refl 122) (by decide) rfl ?_
                            refine Ev.ii6 dX8_isWithin_122 (Eq.refl 125) (by decide) rfl ?_
                            refine Ev.goto' (pc' := 18) dX8_isWithin_125 (by decide) ?_
                            exact ih2 _ (by omega) (k + 1) _ _ _ rfl (by omega) (by first | exact ex_s hp (fun z => hnt z.1) | exact ex_t ⟨hat, by omega⟩ | exact ex_u hp c68 | exact (by omega : p = 0) ▸ ex_s hp (fun z => by have := z.2; omega)) (by first | exact ex_s hq (fun z => hnt z.1) | exact ex_t ⟨hat, by omega⟩ | exact ex_u hq c96 | exact (by omega : q = 0) ▸ ex_s hq (fun z => by have := z.2; omega))
                          · refine Ev.iconst dX8_isWithin_115 (Eq.refl 116) ?_
                            refine Ev.goto' (pc' := 120) dX8_isWithin_116 (by decide) ?_
                            refine Ev.is5 dX8_isWithin_120 (Eq.refl 122) (by decide) rfl ?_
                            refine Ev.ii6 dX8_isWithin_122 (Eq.refl 125) (by decide) rfl ?_
                            refine Ev.goto' (pc' := 18) dX8_isWithin_125 (by decide) ?_
                            exact ih2 _ (by omega) (k + 1) _ _ _ rfl (by omega) (by first | exact ex_s hp (fun z => hnt z.1) | exact ex_t ⟨hat, by omega⟩ | exact ex_u hp c68 | exact (by omega : p = 0) ▸ ex_s hp (fun z => by have := z.2; omega)) (by first | exact ex_s hq (fun z => hnt z.1) | exact ex_t ⟨hat, by omega⟩ | exact ex_u hq c96 | exact (by omega : q = 0) ▸ ex_s hq (fun z => by have := z.2; omega))
            · have e : k = vS v := by omega
              subst e
              have nt : p ≠ 0 → q ≠ 0 → btw v j a := fun h1 h2 => ⟨bi_1 (hp.symm.trans (by omega)), bi_1 (hq.symm.trans (by omega))⟩
              have nf : p = 0 ∨ q = 0 → ¬ btw v j a := fun z w => by
                rcases z with z | z
                · exact bi_0 (hp.symm.trans z) w.1
                · exact bi_0 (hq.symm.trans z) w.2
              have g0 : y = 0 ∨ ¬ btw v j a → (0 : Int) = bi (∀ i, i < a + 1 → btw v j i) := fun z => (bi_f (fun w => by rcases z with z | z; exact bi_0 (hyy.symm.trans z) (fun i hi => w i (by omega)); exact z (w a (by omega)))).symm
              have g1 : y ≠ 0 → btw v j a → (1 : Int) = bi (∀ i, i < a + 1 → btw v j i) := fun z1 z2 => (bi_t (fun i hi => if e : i = a then by rw [e]; exact z2 else bi_1 (hyy.symm.trans (by omega)) i (by omega))).symm
              refine Ev.iload dX8_isWithin_18 (Eq.refl 20) rfl ?_
              refine Ev.aload_n dX8_isWithin_20 (Eq.refl 21) rfl ?_
              refine Ev.getR dX8_isWithin_21 (Eq.refl 24) fg_X8_13 rfl rfl (rX8_3 hR) ?_
              refine Ev.iconst dX8_isWithin_24 (Eq.refl 25) ?_
              refine Ev.iaload dX8_isWithin_25 (Eq.refl 26) rfl rfl (by omega) (by decide) (show (1 : Int).toNat = 1 from rfl) ?_
              rw [e1]
              refine Ev.icmp_ge (tgt := 128) dX8_isWithin_26 (Eq.refl 29) (by decide) ⟨by omega, by omega⟩ ⟨by omega, by omega⟩ (fun c26 => ?_) (fun c26 => ?_)
              · refine Ev.iload_n dX8_isWithin_128 (Eq.refl 129) rfl ?_
                refine Ev.if_eq (tgt := 146) dX8_isWithin_129 (Eq.refl 132) (by decide) ⟨by omega, by omega⟩ (fun c129 => ?_) (fun c129 => ?_)
                · refine Ev.iconst dX8_isWithin_146 (Eq.refl 147) ?_
                  refine Ev.is2 dX8_isWithin_147 (Eq.refl 148) (by decide) rfl ?_
                  refine Ev.ii3 dX8_isWithin_148 (Eq.refl 151) (by decide) rfl ?_
                  refine Ev.goto' (pc' := 4) dX8_isWithin_151 (by decide) ?_
                  first | exact ih _ (by omega) (a + 1) _ _ _ _ _ rfl (by omega) (g1 c129 (nt c134 c139)) | exact ih _ (by omega) (a + 1) _ _ _ _ _ rfl (by omega) (g0 (Or.inl c129)) | exact ih _ (by omega) (a + 1) _ _ _ _ _ rfl (by omega) (g0 (Or.inr (nf (Or.inl c134)))) | exact ih _ (by omega) (a + 1) _ _ _ _ _ rfl (by omega) (g0 (Or.inr (nf (Or.inr c139))))
                · refine Ev.iload dX8_isWithin_132 (Eq.refl 134) rfl ?_
                  refine Ev.if_eq (tgt := 146) dX8_isWithin_134 (Eq.refl 137) (by decide) ⟨by omega, by omega⟩ (fun c134 => ?_) (fun c134 => ?_)
                  · refine Ev.iconst dX8_isWithin_146 (Eq.refl 147) ?_
                    refine Ev.is2 dX8_isWithin_147 (Eq.refl 148) (by decide) rfl ?_
                    refine Ev.ii3 dX8_isWithin_148 (Eq.refl 151) (by decide) rfl ?_
                    refine Ev.goto' (pc' := 4) dX8_isWithin_151 (by decide) ?_
                    first | exact ih _ (by omega) (a + 1) _ _ _ _ _ rfl (by omega) (g1 c129 (nt c134 c139)) | exact ih _ (by omega) (a + 1) _ _ _ _ _ rfl (by omega) (g0 (Or.inl c129)) | exact ih _ (by omega) (a + 1) _ _ _ _ _ rfl (by omega) (g0 (Or.inr (nf (Or.inl c134)))) | exact ih _ (by omega) (a + 1) _ _ _ _ _ rfl (by omega) (g0 (Or.inr (nf (Or.inr c139))))
                  · refine Ev.iload dX8_isWithin_137 (Eq.refl 139) rfl ?_
                    refine Ev.if_eq (tgt := 146) dX8_isWithin_139 (Eq.refl 142) (by decide) ⟨by omega, by omega⟩ (fun c139 => ?_) (fun c139 => ?_)
                    · refine Ev.iconst dX8_isWithin_146 (Eq.refl 147) ?_
                      refine Ev.is2 dX8_isWithin_147 (Eq.refl 148) (by decide) rfl ?_
                      refine Ev.ii3 dX8_isWithin_148 (Eq.refl 151) (by decide) rfl ?_
                      refine Ev.goto' (pc' := 4) dX8_isWithin_151 (by decide) ?_
                      first | exact ih _ (by omega) (a + 1) _ _ _ _ _ rfl (by omega) (g1 c129 (nt c134 c139)) | exact ih _ (by omega) (a + 1) _ _ _ _ _ rfl (by omega) (g0 (Or.inl c129)) | exact ih _ (by omega) (a + 1) _ _ _ _ _ rfl (by omega) (g0 (Or.inr (nf (Or.inl c134)))) | exact ih _ (by omega) (a + 1) _ _ _ _ _ rfl (by omega) (g0 (Or.inr (nf (Or.inr c139))))
                    · refine Ev.iconst dX8_isWithin_142 (Eq.refl 143) ?_
                      refine Ev.goto' (pc' := 147) dX8_isWithin_143 (by decide) ?_
                      refine Ev.is2 dX8_isWithin_147 (Eq.refl 148) (by decide) rfl ?_
                      refine Ev.ii3 dX8_isWithin_148 (Eq.refl 151) (by decide) rfl ?_
                      refine Ev.goto' (pc' := 4) dX8_isWithin_151 (by decide) ?_
                      first | exact ih _ (by omega) (a + 1) _ _ _ _ _ rfl (by omega) (g1 c129 (nt c134 c139)) | exact ih _ (by omega) (a + 1) _ _ _ _ _ rfl (by omega) (g0 (Or.inl c129)) | exact ih _ (by omega) (a + 1) _ _ _ _ _ rfl (by omega) (g0 (Or.inr (nf (Or.inl c134)))) | exact ih _ (by omega) (a + 1) _ _ _ _ _ rfl (by omega) (g0 (Or.inr (nf (Or.inr c139))))
              · omega
        refine Ev.iload_n dX8_isWithin_4 (Eq.refl 5) rfl ?_
        refine Ev.iconst dX8_isWithin_5 (Eq.refl 6) ?_
        refine Ev.icmp_ge (tgt := 154) dX8_isWithin_6 (Eq.refl 9) (by decide) ⟨by omega, by omega⟩ ⟨by omega, by omega⟩ (fun c6 => ?_) (fun c6 => ?_)
        · omega
        · refine Ev.iconst dX8_isWithin_9 (Eq.refl 10) ?_
          refine Ev.is4 dX8_isWithin_10 (Eq.refl 12) (by decide) rfl ?_
          refine Ev.iconst dX8_isWithin_12 (Eq.refl 13) ?_
          refine Ev.is5 dX8_isWithin_13 (Eq.refl 15) (by decide) rfl ?_
          refine Ev.iconst dX8_isWithin_15 (Eq.refl 16) ?_
          refine Ev.is6 dX8_isWithin_16 (Eq.refl 18) (by decide) rfl ?_
          exact IN _ 0 _ _ _ rfl (by omega) (bi_f (fun ⟨i, hi, _⟩ => by omega)).symm (bi_f (fun ⟨i, hi, _⟩ => by omega)).symm
      · have e : a = 3 := by omega
        subst e
        refine Ev.iload_n dX8_isWithin_4 (Eq.refl 5) rfl ?_
        refine Ev.iconst dX8_isWithin_5 (Eq.refl 6) ?_
        refine Ev.icmp_ge (tgt := 154) dX8_isWithin_6 (Eq.refl 9) (by decide) ⟨by omega, by omega⟩ ⟨by omega, by omega⟩ (fun c6 => ?_) (fun c6 => ?_)
        · refine Ev.iload_n dX8_isWithin_154 (Eq.refl 155) rfl ?_
          exact Ev.zret dX8_isWithin_155 rfl (by first | exact bi01 _ | exact Or.inl rfl | exact Or.inr rfl | omega) (PE.of hyy)
        · omega
  refine Ev.iconst dX8_isWithin_0 (Eq.refl 1) ?_
  refine Ev.is2 dX8_isWithin_1 (Eq.refl 2) (by decide) rfl ?_
  refine Ev.iconst dX8_isWithin_2 (Eq.refl 3) ?_
  refine Ev.is3 dX8_isWithin_3 (Eq.refl 4) (by decide) rfl ?_
  exact OUT _ 0 _ _ _ _ _ rfl (by omega) (bi_t (fun i hi => by omega)).symm
end MBS
