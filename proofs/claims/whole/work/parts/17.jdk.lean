/-! JDK: Integer.compare, Integer.bitCount, Math.floorDiv -/
def icmp (x y : Int) : Int := if x < y then -1 else if x = y then 0 else 1
theorem c_compare {h : Hp} {x y : Int} (hx : I32 x) (hy : I32 y) : Ev mJ6_compare_7cf53 0 0 (entL [iv x, iv y] 2) [] h (PE (icmp x y) h) := by
  show Ev mJ6_compare_7cf53 0 0 [some (iv x), some (iv y)] [] h _
  obtain ⟨hx1, hx2⟩ := hx
  obtain ⟨hy1, hy2⟩ := hy
  refine Ev.iload_n dJ6_compare_7cf53_0 (Eq.refl 1) rfl ?_
  refine Ev.iload_n dJ6_compare_7cf53_1 (Eq.refl 2) rfl ?_
  refine Ev.icmp_ge (tgt := 9) dJ6_compare_7cf53_2 (Eq.refl 5) (by decide) ⟨by omega, by omega⟩ ⟨by omega, by omega⟩ (fun c2 => ?_) (fun c2 => ?_)
  · refine Ev.iload_n dJ6_compare_7cf53_9 (Eq.refl 10) rfl ?_
    refine Ev.iload_n dJ6_compare_7cf53_10 (Eq.refl 11) rfl ?_
    refine Ev.icmp_ne (tgt := 18) dJ6_compare_7cf53_11 (Eq.refl 14) (by decide) ⟨by omega, by omega⟩ ⟨by omega, by omega⟩ (fun c11 => ?_) (fun c11 => ?_)
    · refine Ev.iconst dJ6_compare_7cf53_18 (Eq.refl 19) ?_
      exact Ev.iret dJ6_compare_7cf53_19 rfl (PE.of (by unfold icmp; split <;> (try split) <;> omega))
    · refine Ev.iconst dJ6_compare_7cf53_14 (Eq.refl 15) ?_
      refine Ev.goto' (pc' := 19) dJ6_compare_7cf53_15 (by decide) ?_
      exact Ev.iret dJ6_compare_7cf53_19 rfl (PE.of (by unfold icmp; split <;> (try split) <;> omega))
  · refine Ev.iconst dJ6_compare_7cf53_5 (Eq.refl 6) ?_
    refine Ev.goto' (pc' := 19) dJ6_compare_7cf53_6 (by decide) ?_
    exact Ev.iret dJ6_compare_7cf53_19 rfl (PE.of (by unfold icmp; split <;> (try split) <;> omega))
theorem ush31 : ∀ k, k < 32 → (((nI k).toUInt32 &&& Int32.toUInt32 31).toBitVec % 32).toNat = k := by decide
theorem b_ushr {x : Nat} {y : Nat} (hx : x < 4294967296) (hy : y < 32) : ((Int32.ofInt (x : Int)).toUInt32 >>> ((Int32.ofInt (y : Int)).toUInt32 &&& Int32.toUInt32 31)).toInt32 = Int32.ofInt ((x >>> y : Nat) : Int) := by
  rw [Int32.ofInt_eq_ofNat, Int32.ofInt_eq_ofNat, Int32.ofInt_eq_ofNat, Nat.shiftRight_eq_div_pow]
  exact pk_ushrN (by omega) _ y (ush31 y hy)
theorem b_andN {x y : Nat} : Int32.ofInt (x : Int) &&& Int32.ofInt (y : Int) = Int32.ofInt ((x &&& y : Nat) : Int) := b_and (Int.natCast_nonneg _) (Int.natCast_nonneg _)
def bcA (a : Nat) : Nat := a - ((a >>> 1) &&& 1431655765)
def bcB (a : Nat) : Nat := (a &&& 858993459) + ((a >>> 2) &&& 858993459)
def bcC (a : Nat) : Nat := (a + (a >>> 4)) &&& 252645135
def bcD (a : Nat) : Nat := a + (a >>> 8)
def bcE (a : Nat) : Nat := a + (a >>> 16)
def bcF (a : Nat) : Nat := (bcE (bcD (bcC (bcB (bcA a))))) &&& 63
theorem bc_all : ((List.range 16384).all (fun a => (bcF a == cnt (fun j => a.testBit j) 14) && decide (bcA a < 4294967296) && decide (bcB (bcA a) < 4294967296) && decide (bcC (bcB (bcA a)) < 4294967296) && decide (bcD (bcC (bcB (bcA a))) < 4294967296))) = true := by decide +kernel
theorem shrL (a k : Nat) : a >>> k ≤ a := by rw [Nat.shiftRight_eq_div_pow]; exact Nat.div_le_self _ _
theorem bcA_i (a : Nat) : (a : Int) - (((a >>> 1) &&& 1431655765 : Nat) : Int) = (bcA a : Int) := by
  have : (a >>> 1) &&& 1431655765 ≤ a := Nat.le_trans Nat.and_le_left (shrL a 1)
  unfold bcA
  omega
theorem c_bitCount {h : Hp} {x : Int} (h0 : 0 ≤ x) (h1 : x < 16384) : Ev mJ6_bitCount_0f7a4 0 0 (entL [iv x] 1) [] h (PE (cnt (fun j => x.toNat.testBit j) 14 : Nat) h) := by
  show Ev mJ6_bitCount_0f7a4 0 0 [some (iv x)] [] h _
  obtain ⟨a, rfl⟩ := Int.eq_ofNat_of_zero_le h0
  have ha := List.all_eq_true.mp bc_all a (List.mem_range.mpr (by omega))
  simp only [Bool.and_eq_true, decide_eq_true_eq, beq_iff_eq] at ha
  obtain ⟨⟨⟨⟨e, b1⟩, b2⟩, b3⟩, b4⟩ := ha
  rw [Int.toNat_natCast, ← e]
  refine Ev.iload_n dJ6_bitCount_0f7a4_0 (Eq.refl 1) rfl ?_
  refine Ev.iload_n dJ6_bitCount_0f7a4_1 (Eq.refl 2) rfl ?_
  refine Ev.iconst dJ6_bitCount_0f7a4_2 (Eq.refl 3) ?_
  refine Ev.iushr dJ6_bitCount_0f7a4_3 (Eq.refl 4) (b_ushr (y := 1) (by omega) (by decide)) ?_
  refine Ev.ldcw dJ6_bitCount_0f7a4_4 (Eq.refl 7) kc_J6_265 ?_
  refine Ev.iand dJ6_bitCount_0f7a4_7 (Eq.refl 8) (b_andN (y := 1431655765)) ?_
  refine Ev.isub dJ6_bitCount_0f7a4_8 (Eq.refl 9) ?_
  rw [bcA_i]
  refine Ev.is0 dJ6_bitCount_0f7a4_9 (Eq.refl 10) (by decide) rfl ?_
  refine Ev.iload_n dJ6_bitCount_0f7a4_10 (Eq.refl 11) rfl ?_
  refine Ev.ldcw dJ6_bitCount_0f7a4_11 (Eq.refl 14) kc_J6_266 ?_
  refine Ev.iand dJ6_bitCount_0f7a4_14 (Eq.refl 15) (b_andN (y := 858993459)) ?_
  refine Ev.iload_n dJ6_bitCount_0f7a4_15 (Eq.refl 16) rfl ?_
  refine Ev.iconst dJ6_bitCount_0f7a4_16 (Eq.refl 17) ?_
  refine Ev.iushr dJ6_bitCount_0f7a4_17 (Eq.refl 18) (b_ushr (y := 2) (by omega) (by decide)) ?_
  refine Ev.ldcw dJ6_bitCount_0f7a4_18 (Eq.refl 21) kc_J6_266 ?_
  refine Ev.iand dJ6_bitCount_0f7a4_21 (Eq.refl 22) (b_andN (y := 858993459)) ?_
  refine Ev.iadd dJ6_bitCount_0f7a4_22 (Eq.refl 23) ?_
  rw [show (((bcA a &&& 858993459 : Nat) : Int) + ((bcA a >>> 2 &&& 858993459 : Nat) : Int)) = ((bcB (bcA a) : Nat) : Int) from (Int.natCast_add _ _).symm]
  refine Ev.is0 dJ6_bitCount_0f7a4_23 (Eq.refl 24) (by decide) rfl ?_
  refine Ev.iload_n dJ6_bitCount_0f7a4_24 (Eq.refl 25) rfl ?_
  refine Ev.iload_n dJ6_bitCount_0f7a4_25 (Eq.refl 26) rfl ?_
  refine Ev.iconst dJ6_bitCount_0f7a4_26 (Eq.refl 27) ?_
  refine Ev.iushr dJ6_bitCount_0f7a4_27 (Eq.refl 28) (b_ushr (y := 4) (by omega) (by decide)) ?_
  refine Ev.iadd dJ6_bitCount_0f7a4_28 (Eq.refl 29) ?_
  rw [show (((bcB (bcA a) : Nat) : Int) + ((bcB (bcA a) >>> 4 : Nat) : Int)) = ((bcB (bcA a) + bcB (bcA a) >>> 4 : Nat) : Int) from (Int.natCast_add _ _).symm]
  refine Ev.ldcw dJ6_bitCount_0f7a4_29 (Eq.refl 32) kc_J6_267 ?_
  refine Ev.iand dJ6_bitCount_0f7a4_32 (Eq.refl 33) (b_andN (y := 252645135)) ?_
  rw [show (bcB (bcA a) + bcB (bcA a) >>> 4) &&& 252645135 = bcC (bcB (bcA a)) from rfl]
  refine Ev.is0 dJ6_bitCount_0f7a4_33 (Eq.refl 34) (by decide) rfl ?_
  refine Ev.iload_n dJ6_bitCount_0f7a4_34 (Eq.refl 35) rfl ?_
  refine Ev.iload_n dJ6_bitCount_0f7a4_35 (Eq.refl 36) rfl ?_
  refine Ev.bipush dJ6_bitCount_0f7a4_36 (Eq.refl 38) (by decide) ?_
  refine Ev.iushr dJ6_bitCount_0f7a4_38 (Eq.refl 39) (b_ushr (y := 8) (by omega) (by decide)) ?_
  refine Ev.iadd dJ6_bitCount_0f7a4_39 (Eq.refl 40) ?_
  rw [show (((bcC (bcB (bcA a)) : Nat) : Int) + ((bcC (bcB (bcA a)) >>> 8 : Nat) : Int)) = ((bcD (bcC (bcB (bcA a))) : Nat) : Int) from (Int.natCast_add _ _).symm]
  refine Ev.is0 dJ6_bitCount_0f7a4_40 (Eq.refl 41) (by decide) rfl ?_
  refine Ev.iload_n dJ6_bitCount_0f7a4_41 (Eq.refl 42) rfl ?_
  refine Ev.iload_n dJ6_bitCount_0f7a4_42 (Eq.refl 43) rfl ?_
  refine Ev.bipush dJ6_bitCount_0f7a4_43 (Eq.refl 45) (by decide) ?_
  refine Ev.iushr dJ6_bitCount_0f7a4_45 (Eq.refl 46) (b_ushr (y := 16) (by omega) (by decide)) ?_
  refine Ev.iadd dJ6_bitCount_0f7a4_46 (Eq.refl 47) ?_
  rw [show (((bcD (bcC (bcB (bcA a))) : Nat) : Int) + ((bcD (bcC (bcB (bcA a))) >>> 16 : Nat) : Int)) = ((bcE (bcD (bcC (bcB (bcA a)))) : Nat) : Int) from (Int.natCast_add _ _).symm]
  refine Ev.is0 dJ6_bitCount_0f7a4_47 (Eq.refl 48) (by decide) rfl ?_
  refine Ev.iload_n dJ6_bitCount_0f7a4_48 (Eq.refl 49) rfl ?_
  refine Ev.bipush dJ6_bitCount_0f7a4_49 (Eq.refl 51) (by decide) ?_
  refine Ev.iand dJ6_bitCount_0f7a4_51 (Eq.refl 52) (b_andN (y := 63)) ?_
  exact Ev.iret dJ6_bitCount_0f7a4_52 rfl (PE.mk)
theorem xorS {x y : Int} (hx : I64 x) (hy : 0 ≤ y ∧ y ≤ 9223372036854775807) : (Int64.ofInt x ^^^ Int64.ofInt y).toInt < 0 ↔ x < 0 := by
  have h1 : (Int64.ofInt x ^^^ Int64.ofInt y).toBitVec.msb = ((Int64.ofInt x).toBitVec.msb ^^ (Int64.ofInt y).toBitVec.msb) := by rw [Int64.toBitVec_xor, BitVec.msb_xor]
  have e1 : (Int64.ofInt x).toBitVec.msb = decide (x < 0) := by rw [BitVec.msb_eq_toInt]; show decide ((Int64.ofInt x).toInt < 0) = _; rw [i64T hx]
  have e2 : (Int64.ofInt y).toBitVec.msb = decide (y < 0) := by rw [BitVec.msb_eq_toInt]; show decide ((Int64.ofInt y).toInt < 0) = _; rw [i64T ⟨by omega, hy.2⟩]
  rw [e1, e2, decide_eq_false (show ¬ y < 0 by omega), Bool.xor_false, BitVec.msb_eq_toInt] at h1
  have h2 : decide ((Int64.ofInt x ^^^ Int64.ofInt y).toInt < 0) = decide (x < 0) := h1
  exact decide_eq_decide.mp h2
theorem i64R (a : Int64) : I64 a.toInt := ⟨by have := Int64.le_toInt a; omega, by have := Int64.toInt_lt a; omega⟩
theorem tdivM {x y : Int} (hx : I64 x) (hy : 0 < y) : I64 (x.tdiv y * y) := by
  obtain ⟨hx1, hx2⟩ := hx
  have e := Int.tdiv_mul_self x y
  rcases Int.le_total 0 x with h0 | h0
  · have h1 := Int.tmod_nonneg y h0
    have h2 : x.tmod y ≤ x := by
      have := Int.tdiv_nonneg h0 (show 0 ≤ y by omega)
      have := Int.mul_nonneg this (show 0 ≤ y by omega)
      omega
    exact ⟨by omega, by omega⟩
  · have h3 := Int.tmod_nonneg y (show 0 ≤ -x by omega)
    rw [Int.neg_tmod] at h3
    have h2 : x ≤ x.tmod y := by
      have h4 := Int.tdiv_nonneg (show 0 ≤ -x by omega) (show 0 ≤ y by omega)
      rw [Int.neg_tdiv] at h4
      have := Int.mul_nonneg h4 (show 0 ≤ y by omega)
      rw [Int.neg_mul] at this
      omega
    exact ⟨by omega, by omega⟩
theorem fdA {x y : Int} (h : 0 ≤ x) : x.tdiv y = x / y := Int.tdiv_eq_ediv_of_nonneg h
theorem fdB {x y : Int} (h : x.tdiv y * y = x) : x.tdiv y = x / y := Int.tdiv_eq_ediv_of_dvd ⟨x.tdiv y, by rw [Int.mul_comm]; exact h.symm⟩
theorem fdC {x y : Int} (hy : 0 < y) (h0 : x < 0) (h : ¬ x.tdiv y * y = x) : x.tdiv y - 1 = x / y := by
  have e := Int.tdiv_eq_ediv (a := x) (b := y)
  have hnd : ¬ y ∣ x := fun q => h (Int.tdiv_mul_cancel q)
  rw [if_neg (by intro z; rcases z with z | z; omega; exact hnd z), Int.sign_eq_one_of_pos hy] at e
  omega
theorem c_floorDiv {h : Hp} {x y : Int} (hx : I64 x) (hy : 0 < y ∧ y ≤ 9223372036854775807) : Ev mJ9_floorDiv_f86c9 0 0 (entL [jv x, jv y] 6) [] h (PEJ (x / y) h) := by
  show Ev mJ9_floorDiv_f86c9 0 0 [some (jv x), none, some (jv y), none, none, none] [] h _
  have hx' := hx
  obtain ⟨hx1, hx2⟩ := hx
  have hz := xorS hx' ⟨by omega, hy.2⟩
  have hzr := i64R (Int64.ofInt x ^^^ Int64.ofInt y)
  have hq := tdivM hx' hy.1
  refine Ev.lload_n dJ9_floorDiv_f86c9_0 (Eq.refl 1) rfl ?_
  refine Ev.lload_n dJ9_floorDiv_f86c9_1 (Eq.refl 2) rfl ?_
  refine Ev.ldiv dJ9_floorDiv_f86c9_2 (Eq.refl 3) ⟨by omega, by omega⟩ ⟨by omega, by omega⟩ (by omega) ?_
  refine Ev.ls4 dJ9_floorDiv_f86c9_3 (Eq.refl 5) (by decide) rfl ?_
  refine Ev.lload_n dJ9_floorDiv_f86c9_5 (Eq.refl 6) rfl ?_
  refine Ev.lload_n dJ9_floorDiv_f86c9_6 (Eq.refl 7) rfl ?_
  refine Ev.lxor dJ9_floorDiv_f86c9_7 (Eq.refl 8) (Int64.ofInt_toInt _).symm ?_
  refine Ev.lconst0 dJ9_floorDiv_f86c9_8 (Eq.refl 9) ?_
  refine Ev.ifl_ge (tgt := 27) dJ9_floorDiv_f86c9_9 (Eq.refl 10) dJ9_floorDiv_f86c9_10 (Eq.refl 13) (by decide) hzr i64z (fun c9 => ?_) (fun c9 => ?_)
  · have hx0 : 0 ≤ x := by omega
    refine Ev.lload dJ9_floorDiv_f86c9_27 (Eq.refl 29) rfl ?_
    exact Ev.lret dJ9_floorDiv_f86c9_29 rfl (⟨_, rfl, (by first | exact fdA hx0 | exact fdB (by assumption) | exact fdC hy.1 hx0 (by assumption)), rfl⟩)
  · have hx0 : x < 0 := by omega
    refine Ev.lload dJ9_floorDiv_f86c9_13 (Eq.refl 15) rfl ?_
    refine Ev.lload_n dJ9_floorDiv_f86c9_15 (Eq.refl 16) rfl ?_
    refine Ev.lmul dJ9_floorDiv_f86c9_16 (Eq.refl 17) ?_
    refine Ev.lload_n dJ9_floorDiv_f86c9_17 (Eq.refl 18) rfl ?_
    refine Ev.ifl_eq (tgt := 27) dJ9_floorDiv_f86c9_18 (Eq.refl 19) dJ9_floorDiv_f86c9_19 (Eq.refl 22) (by decide) hq hx' (fun c18 => ?_) (fun c18 => ?_)
    · refine Ev.lload dJ9_floorDiv_f86c9_27 (Eq.refl 29) rfl ?_
      exact Ev.lret dJ9_floorDiv_f86c9_29 rfl (⟨_, rfl, (by first | exact fdA hx0 | exact fdB (by assumption) | exact fdC hy.1 hx0 (by assumption)), rfl⟩)
    · refine Ev.lload dJ9_floorDiv_f86c9_22 (Eq.refl 24) rfl ?_
      refine Ev.lconst1 dJ9_floorDiv_f86c9_24 (Eq.refl 25) ?_
      refine Ev.lsub dJ9_floorDiv_f86c9_25 (Eq.refl 26) ?_
      exact Ev.lret dJ9_floorDiv_f86c9_26 rfl (⟨_, rfl, (by first | exact fdA hx0 | exact fdB (by assumption) | exact fdC hy.1 hx0 (by assumption)), rfl⟩)
