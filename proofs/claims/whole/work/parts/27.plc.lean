/-! Places, hundredths, lengths of a net; whole roots. -/
def isR (x r : Int) : Prop := 0 ≤ r ∧ r * r ≤ x ∧ x < (r + 1) * (r + 1)
noncomputable def isq (x : Int) : Int := Classical.epsilon (isR x)
theorem sq_le {a b : Int} (h0 : 0 ≤ a) (h : a ≤ b) : a * a ≤ b * b := Int.le_trans (Int.mul_le_mul_of_nonneg_left h h0) (Int.mul_le_mul_of_nonneg_right h (by omega))
theorem isR_ex : ∀ n : Nat, ∃ r, isR (n : Int) r
  | 0 => ⟨0, by unfold isR; omega⟩
  | n + 1 => by
    obtain ⟨r, h0, h1, h2⟩ := isR_ex n
    by_cases q : (n : Int) + 1 < (r + 1) * (r + 1)
    · exact ⟨r, h0, by push_cast; omega, by push_cast; exact q⟩
    · refine ⟨r + 1, by omega, by push_cast; omega, ?_⟩
      have e : (r + 1 + 1) * (r + 1 + 1) = (r + 1) * (r + 1) + 2 * r + 3 := by grind
      push_cast; omega
theorem isR_un {x r s : Int} (h : isR x r) (g : isR x s) : r = s := by
  obtain ⟨h0, h1, h2⟩ := h
  obtain ⟨g0, g1, g2⟩ := g
  rcases Int.lt_trichotomy r s with l | l | l
  · have := sq_le (a := r + 1) (b := s) (by omega) (by omega); omega
  · exact l
  · have := sq_le (a := s + 1) (b := r) (by omega) (by omega); omega
theorem isq_R {x : Int} (h : 0 ≤ x) : isR x (isq x) := by
  obtain ⟨n, rfl⟩ := Int.eq_ofNat_of_zero_le h
  exact Classical.epsilon_spec (isR_ex n)
theorem isq_of {x r : Int} (h : isR x r) : isq x = r := isR_un (isq_R (by obtain ⟨h0, h1, _⟩ := h; have := Int.mul_nonneg h0 h0; omega)) h
theorem isq_lt {x b : Int} (h : 0 ≤ x) (hb : 0 ≤ b) (hx : x < b * b) : isq x < b := by
  obtain ⟨g0, g1, g2⟩ := isq_R h
  rcases Int.lt_or_le (isq x) b with l | l
  · exact l
  · have := sq_le hb l; omega
theorem or_add {m b : Nat} : (m * 2 ^ (b + 1)) ||| 2 ^ b = m * 2 ^ (b + 1) + 2 ^ b := by
  have := Nat.two_pow_add_eq_or_of_lt (i := b + 1) (b := 2 ^ b) (by rw [Nat.pow_succ]; have := Nat.two_pow_pos b; omega) m
  rw [Nat.mul_comm m]
  exact this.symm
noncomputable def zA (v : Nv) (j a : Nat) : Int := if vF v j = true then tB v (vN v) (rwo v j) (5 + a) else vP v j a * dB v (vN v)
noncomputable def hU (v : Nv) (j a : Nat) : Int := (100 * zA v j a) / dB v (vN v)
noncomputable def wy (v : Nv) (s a : Nat) : Int := hU v (vB v s) a - hU v (vA v s) a
noncomputable def lnq (v : Nv) (s : Nat) : Int := wy v s 0 * wy v s 0 + wy v s 1 * wy v s 1 + wy v s 2 * wy v s 2
noncomputable def len (v : Nv) (s : Nat) : Int := isq (lnq v s)
section PLC
variable {v : Nv}
theorem zA_b (k : VOk v) (ha : aH v (hgV v)) {j a : Nat} (hj : j < vJ v) (h3 : a < 3) : -(225 * dB v (vN v)) ≤ zA v j a ∧ zA v j a ≤ 285 * dB v (vN v) := by
  have hd := dB_pos k ha (Nat.le_refl (vN v))
  unfold zA
  by_cases q : vF v j = true
  · rw [if_pos q]; exact tB_b k ha (rwo_lt hj q) (by omega)
  · rw [if_neg q]
    have p := k.2.2.2.2.2.1 j a
    have h1 := Int.mul_nonneg p.1 (Int.le_of_lt hd)
    have h2 : vP v j a * dB v (vN v) ≤ 60 * dB v (vN v) := Int.mul_le_mul_of_nonneg_right p.2 (Int.le_of_lt hd)
    omega
theorem hU_b (k : VOk v) (ha : aH v (hgV v)) {j a : Nat} (hj : j < vJ v) (h3 : a < 3) : -22500 ≤ hU v j a ∧ hU v j a ≤ 28500 := by
  have hd := dB_pos k ha (Nat.le_refl (vN v))
  have b := zA_b k ha hj h3
  unfold hU
  constructor
  · exact (Int.le_ediv_iff_mul_le hd).mpr (by omega)
  · have : 100 * zA v j a / dB v (vN v) < 28501 := (Int.ediv_lt_iff_lt_mul hd).mpr (by omega)
    omega
theorem wy_b (k : VOk v) (ha : aH v (hgV v)) {s a : Nat} (hs : s < vS v) (h3 : a < 3) : Ab 51000 (wy v s a) := by
  have b := k.2.2.2.1 s hs
  have h1 := hU_b k ha b.1 h3
  have h2 := hU_b k ha b.2.1 h3
  unfold wy Ab
  omega
theorem sq_nn (x : Int) : 0 ≤ x * x := by
  rcases Int.le_total 0 x with h | h
  · exact Int.mul_nonneg h h
  · exact mul_nn h h
theorem lnq_b (k : VOk v) (ha : aH v (hgV v)) {s : Nat} (hs : s < vS v) : 0 ≤ lnq v s ∧ lnq v s ≤ 7803000000 := by
  have a0 := (wy_b k ha hs (a := 0) (by omega))
  have a1 := (wy_b k ha hs (a := 1) (by omega))
  have a2 := (wy_b k ha hs (a := 2) (by omega))
  have b0 := (a0.mul a0).2
  have b1 := (a1.mul a1).2
  have b2 := (a2.mul a2).2
  have c0 := sq_nn (wy v s 0)
  have c1 := sq_nn (wy v s 1)
  have c2 := sq_nn (wy v s 2)
  unfold lnq
  omega
theorem len_b (k : VOk v) (ha : aH v (hgV v)) {s : Nat} (hs : s < vS v) : 0 ≤ len v s ∧ len v s < 90000 := by
  have := lnq_b k ha hs
  exact ⟨(isq_R this.1).1, isq_lt this.1 (by omega) (by omega)⟩
end PLC
theorem c_wholeRoot {h : Hp} {x : Int} (h0 : 0 ≤ x) (h1 : x < 17179869184) : Ev mX4_wholeRoot 0 0 (entL [jv x] 6) [] h (PE (isq x) h) := by
  show Ev mX4_wholeRoot 0 0 [some (jv x), none, none, none, none, none] [] h _
  have LOOP : ∀ (b m : Nat) (a c : Option Value), b ≤ 17 → m * 2 ^ b < 131072 → (m * 2 ^ b : Int) * (m * 2 ^ b) ≤ x → x < (m * 2 ^ b + 2 ^ b : Int) * (m * 2 ^ b + 2 ^ b) → Ev mX4_wholeRoot 0 5 [some (jv x), none, some (iv (m * 2 ^ b : Int)), some (iv ((b : Int) - 1)), a, c] [] h (PE (isq x) h) := by
    intro b
    induction b with
    | zero =>
      intro m a c _ hm g1 g2
      refine Ev.iload_n dX4_wholeRoot_5 (Eq.refl 6) rfl ?_
      refine Ev.if_lt (tgt := 37) dX4_wholeRoot_6 (Eq.refl 9) (by decide) ⟨by omega, by omega⟩ (fun c6 => ?_) (fun c6 => ?_)
      · refine Ev.iload_n dX4_wholeRoot_37 (Eq.refl 38) rfl ?_
        exact Ev.iret dX4_wholeRoot_38 rfl (PE.of (by refine (isq_of ⟨?_, g1, ?_⟩).symm; exact Int.mul_nonneg (by omega) (by decide); exact g2))
      · omega
    | succ b ih =>
      intro m a c hb hm g1 g2
      have e1 : (m * 2 ^ (b + 1) : Int) = ((m * 2 ^ (b + 1) : Nat) : Int) := by push_cast; rfl
      have e2 : (2 : Int) ^ b = ((2 ^ b : Nat) : Int) := by push_cast; rfl
      have p1 := Nat.two_pow_pos b
      have p2 : 2 ^ (b + 1) = 2 ^ b * 2 := Nat.pow_succ 2 b
      have p3 : (2 : Int) ^ (b + 1) = 2 ^ b * 2 := Int.pow_succ 2 b
      have p4 : 2 ^ b ≤ 2 ^ 16 := Nat.pow_le_pow_right (by omega) (by omega)
      have e3 : m * 2 ^ (b + 1) = (2 * m) * 2 ^ b := by rw [p2]; grind
      have e4 : (m * 2 ^ (b + 1) : Int) = ((2 * m : Nat) : Int) * 2 ^ b := by rw [p3]; push_cast; grind
      have e5 : m * 2 ^ (b + 1) + 2 ^ b = (2 * m + 1) * 2 ^ b := by rw [p2]; grind
      have l17 : (2 * m + 1) * 2 ^ b < 131072 := by
        have h17 : (131072 : Nat) = 2 ^ (16 - b) * 2 * 2 ^ b := by
          rw [Nat.mul_assoc, Nat.mul_comm 2, ← Nat.pow_succ, ← Nat.pow_add, show 16 - b + (b + 1) = 17 by omega]
        have hm2 : 2 * m * 2 ^ b < 2 ^ (16 - b) * 2 * 2 ^ b := by rw [← h17, ← e3]; exact hm
        have hm3 : 2 * m < 2 ^ (16 - b) * 2 := Nat.lt_of_mul_lt_mul_right hm2
        rw [h17]
        exact Nat.mul_lt_mul_of_pos_right (by omega) p1
      have lR : (m * 2 ^ (b + 1) : Int) ≤ 131071 ∧ 0 ≤ (m * 2 ^ (b + 1) : Int) := by rw [e1]; omega
      have tr : (((m * 2 ^ (b + 1) : Int).toNat ||| (1 * (2 : Int) ^ ((b : Int)).toNat).toNat : Nat) : Int) = ((2 * m + 1 : Nat) : Int) * 2 ^ b := by
        rw [e1, Int.toNat_natCast, Int.toNat_natCast, Int.one_mul, e2, Int.toNat_natCast, or_add, e5]
        push_cast; rfl
      have lT : 0 ≤ ((2 * m + 1 : Nat) : Int) * 2 ^ b ∧ ((2 * m + 1 : Nat) : Int) * 2 ^ b ≤ 131071 := by rw [e2, ← Int.natCast_mul]; omega
      have q1 : ((2 * m + 1 : Nat) : Int) * 2 ^ b = m * 2 ^ (b + 1) + 2 ^ b := by rw [p3]; push_cast; grind
      have q2 : ((2 * m + 1 : Nat) : Int) * 2 ^ b + 2 ^ b = m * 2 ^ (b + 1) + 2 ^ (b + 1) := by rw [p3]; push_cast; grind
      have bd : 0 ≤ (((2 * m + 1 : Nat) : Int) * 2 ^ b) * (((2 * m + 1 : Nat) : Int) * 2 ^ b) ∧ (((2 * m + 1 : Nat) : Int) * 2 ^ b) * (((2 * m + 1 : Nat) : Int) * 2 ^ b) ≤ 131071 * 131071 := ⟨sq_nn _, sq_le lT.1 lT.2⟩
      have eb : ((b + 1 : Nat) : Int) - 1 = (b : Int) := by push_cast; omega
      rw [eb]
      refine Ev.iload_n dX4_wholeRoot_5 (Eq.refl 6) rfl ?_
      refine Ev.if_lt (tgt := 37) dX4_wholeRoot_6 (Eq.refl 9) (by decide) ⟨by omega, by omega⟩ (fun c6 => ?_) (fun c6 => ?_)
      · omega
      · refine Ev.iload_n dX4_wholeRoot_9 (Eq.refl 10) rfl ?_
        refine Ev.iconst dX4_wholeRoot_10 (Eq.refl 11) ?_
        refine Ev.iload_n dX4_wholeRoot_11 (Eq.refl 12) rfl ?_
        refine Ev.ishl dX4_wholeRoot_12 (Eq.refl 13) (b_shl (by omega) (by omega) (by omega) (shl1 (by omega))) ?_
        refine Ev.ior dX4_wholeRoot_13 (Eq.refl 14) (b_or (by omega) (by exact shl0)) ?_
        rw [tr]
        refine Ev.i2l dX4_wholeRoot_14 (Eq.refl 15) ⟨by omega, by omega⟩ ?_
        refine Ev.ls4 dX4_wholeRoot_15 (Eq.refl 17) (by decide) rfl ?_
        refine Ev.lload dX4_wholeRoot_17 (Eq.refl 19) rfl ?_
        refine Ev.lload dX4_wholeRoot_19 (Eq.refl 21) rfl ?_
        refine Ev.lmul dX4_wholeRoot_21 (Eq.refl 22) ?_
        refine Ev.lload_n dX4_wholeRoot_22 (Eq.refl 23) rfl ?_
        refine Ev.ifl_gt (tgt := 31) dX4_wholeRoot_23 (Eq.refl 24) dX4_wholeRoot_24 (Eq.refl 27) (by decide) ⟨by omega, by omega⟩ ⟨by omega, by omega⟩ (fun c23 => ?_) (fun c23 => ?_)
        · refine Ev.ii3 dX4_wholeRoot_31 (Eq.refl 34) (by decide) rfl ?_
          refine Ev.goto' (pc' := 5) dX4_wholeRoot_34 (by decide) ?_
          first | exact ih (2 * m + 1) _ _ (by omega) l17 c23 (by rw [q2]; exact g2) | (rw [e4]; exact ih (2 * m) _ _ (by omega) (by rw [← e3]; exact hm) (by rw [← e4]; exact g1) (by rw [← e4, ← q1]; omega))
        · have c23 : (((2 * m + 1 : Nat) : Int) * 2 ^ b) * (((2 * m + 1 : Nat) : Int) * 2 ^ b) ≤ x := by omega
          refine Ev.lload dX4_wholeRoot_27 (Eq.refl 29) rfl ?_
          refine Ev.l2i dX4_wholeRoot_29 (Eq.refl 30) ?_
          refine Ev.is2 dX4_wholeRoot_30 (Eq.refl 31) (by decide) rfl ?_
          refine Ev.ii3 dX4_wholeRoot_31 (Eq.refl 34) (by decide) rfl ?_
          refine Ev.goto' (pc' := 5) dX4_wholeRoot_34 (by decide) ?_
          first | exact ih (2 * m + 1) _ _ (by omega) l17 c23 (by rw [q2]; exact g2) | (rw [e4]; exact ih (2 * m) _ _ (by omega) (by rw [← e3]; exact hm) (by rw [← e4]; exact g1) (by rw [← e4, ← q1]; omega))
  refine Ev.iconst dX4_wholeRoot_0 (Eq.refl 1) ?_
  refine Ev.is2 dX4_wholeRoot_1 (Eq.refl 2) (by decide) rfl ?_
  refine Ev.bipush dX4_wholeRoot_2 (Eq.refl 4) (by decide) ?_
  refine Ev.is3 dX4_wholeRoot_4 (Eq.refl 5) (by decide) rfl ?_
  have z : ((0 : Nat) : Int) * 2 ^ 17 = 0 := Int.zero_mul _
  have L := LOOP 17 0 none none (Nat.le_refl 17) (by rw [Nat.zero_mul]; decide) (by rw [z]; omega) (by rw [z, show (2 : Int) ^ 17 = 131072 from by decide]; omega)
  rw [z] at L
  exact L
