/-! Net: clear, addFixed, addFree, tellRolls, takesNoMore -/
def vFix (v : Nv) (x y z : Int) : Nv := (v.1 + 1, v.2.1, v.2.2.1, fun j a => if j = v.1 then (if a = 0 then x else if a = 1 then y else if a = 2 then z else 0) else vP v j a, fun j => if j = v.1 then 0 else vLd v j, v.2.2.2.2.2)
def vFre (v : Nv) (w : Int) : Nv := (v.1 + 1, v.2.1, fun j => if j = v.1 then true else vF v j, v.2.2.2.1, fun j => if j = v.1 then w else vLd v j, v.2.2.2.2.2)
def vStr (v : Nv) (a b : Nat) (q w : Int) : Nv := (v.1, v.2.1 + 1, v.2.2.1, v.2.2.2.1, v.2.2.2.2.1, fun s => if s = v.2.1 then a else vA v s, fun s => if s = v.2.1 then b else vB v s, fun s => if s = v.2.1 then q else vQ v s, fun s => if s = v.2.1 then w else vW v s, fun s => if s = v.2.1 then true else vH v s, v.2.2.2.2.2.2.2.2.2.2)
def vRol (v : Nv) (r e : Int) : Nv := (v.1, v.2.1, v.2.2.1, v.2.2.2.1, v.2.2.2.2.1, v.2.2.2.2.2.1, v.2.2.2.2.2.2.1, v.2.2.2.2.2.2.2.1, v.2.2.2.2.2.2.2.2.1, v.2.2.2.2.2.2.2.2.2.1, r, e)
def v0 : Nv := (0, 0, fun _ => false, fun _ _ => 0, fun _ => 0, fun _ => 0, fun _ => 0, fun _ => 0, fun _ => 0, fun _ => false, 40, 10)
def vDeg (v : Nv) (j : Nat) : Nat := cnt (fun s => decide (vA v s = j ∨ vB v s = j)) (vS v)
def vTied (v : Nv) (a b : Nat) : Prop := ∃ s, s < vS v ∧ (vA v s = a ∨ vB v s = a) ∧ (vA v s = b ∨ vB v s = b)
def vFull (v : Nv) (j : Nat) : Prop := vF v j = true ∧ 4 ≤ vDeg v j
def okFix (v : Nv) (x y z : Int) : Prop := vJ v < 10 ∧ x ≤ 60 ∧ y ≤ 60 ∧ z ≤ 60
def okFre (v : Nv) (w : Int) : Prop := vJ v < 10 ∧ cnt (vF v) (vJ v) < 5 ∧ w ≤ 9
def okStr (v : Nv) (a b q w : Int) : Prop := vS v < 14 ∧ a < vJ v ∧ b < vJ v ∧ a ≠ b ∧ (1 ≤ q ∧ q ≤ 5) ∧ w ≤ 99 ∧ ¬ vTied v a.toNat b.toNat ∧ ¬ vFull v a.toNat ∧ ¬ vFull v b.toNat
def okRol (r e : Int) : Prop := (1 ≤ r ∧ r ≤ 99) ∧ e ≤ 50
def cClr (h : Hp) (n : Nat) : Hp := hI (hI (hI (hI (hI (hI h n 0 0) n 1 0) n 2 0) n 3 0) n 4 40) n 5 10
theorem c_clear {h : Hp} {n : Nat} (hn : isNet n) : Ev mX2_clear 0 0 (entL [.ref n] 1) [] h (PV (fun h' => h' = cClr h n)) := by
  show Ev mX2_clear 0 0 [some (.ref n)] [] h _
  refine Ev.aload_n dX2_clear_0 (Eq.refl 1) rfl ?_
  refine Ev.iconst dX2_clear_1 (Eq.refl 2) ?_
  refine Ev.putI dX2_clear_2 (Eq.refl 5) fp_X2_30 (lyN0 (by assumption)) rfl (Or.inl rfl) ?_
  refine Ev.aload_n dX2_clear_5 (Eq.refl 6) rfl ?_
  refine Ev.iconst dX2_clear_6 (Eq.refl 7) ?_
  refine Ev.putI dX2_clear_7 (Eq.refl 10) fp_X2_34 (lyN0 (by assumption)) rfl (Or.inl rfl) ?_
  refine Ev.aload_n dX2_clear_10 (Eq.refl 11) rfl ?_
  refine Ev.iconst dX2_clear_11 (Eq.refl 12) ?_
  refine Ev.putI dX2_clear_12 (Eq.refl 15) fp_X2_37 (lyN0 (by assumption)) rfl (Or.inl rfl) ?_
  refine Ev.aload_n dX2_clear_15 (Eq.refl 16) rfl ?_
  refine Ev.iconst dX2_clear_16 (Eq.refl 17) ?_
  refine Ev.putI dX2_clear_17 (Eq.refl 20) fp_X2_40 (lyN0 (by assumption)) rfl (Or.inl rfl) ?_
  refine Ev.aload_n dX2_clear_20 (Eq.refl 21) rfl ?_
  refine Ev.bipush dX2_clear_21 (Eq.refl 23) (by decide) ?_
  refine Ev.putI dX2_clear_23 (Eq.refl 26) fp_X2_43 (lyN0 (by assumption)) rfl (Or.inl rfl) ?_
  refine Ev.aload_n dX2_clear_26 (Eq.refl 27) rfl ?_
  refine Ev.bipush dX2_clear_27 (Eq.refl 29) (by decide) ?_
  refine Ev.putI dX2_clear_29 (Eq.refl 32) fp_X2_46 (lyN0 (by assumption)) rfl (Or.inl rfl) ?_
  exact Ev.vret dX2_clear_32 rfl (⟨rfl, rfl⟩)
def cFix (h : Hp) (n : Nat) (x y z : Int) : Hp := hI (hI (hI (hI (hI h (n + 1) ((h.1 n 0).toNat * 3) x) (n + 1) ((h.1 n 0).toNat * 3 + 1) y) (n + 1) ((h.1 n 0).toNat * 3 + 2) z) (n + 2) (h.1 n 0).toNat 0) n 0 (h.1 n 0 + 1)
theorem c_addFixed {h : Hp} {n : Nat} {x y z : Int} (hR : ROk h.2.2) (hn : isNet n) (ok : NOk h n) (hx : 0 ≤ x ∧ x ≤ 99) (hy : 0 ≤ y ∧ y ≤ 99) (hz : 0 ≤ z ∧ z ≤ 99) : Ev mX2_addFixed 0 0 (entL [.ref n, iv x, iv y, iv z] 4) [] h (PB (okFix (cV h n) x y z) (cFix h n x y z) h) := by
  show Ev mX2_addFixed 0 0 [some (.ref n), some (iv x), some (iv y), some (iv z)] [] h _
  have hJ := ok.1
  have eJ := cV_J ok
  have n1 : n ≠ n + 1 := by omega
  have n2 : n ≠ n + 2 := by omega
  refine Ev.aload_n dX2_addFixed_0 (Eq.refl 1) rfl ?_
  refine Ev.getI dX2_addFixed_1 (Eq.refl 4) fg_X2_30 (lyN0 (by assumption)) rfl ?_
  refine Ev.bipush dX2_addFixed_4 (Eq.refl 6) (by decide) ?_
  refine Ev.icmp_ge (tgt := 27) dX2_addFixed_6 (Eq.refl 9) (by decide) ⟨by omega, by omega⟩ ⟨by omega, by omega⟩ (fun c6 => ?_) (fun c6 => ?_)
  · refine Ev.iconst dX2_addFixed_27 (Eq.refl 28) ?_
    exact Ev.zret dX2_addFixed_28 rfl (by first | exact bi01 _ | exact Or.inl rfl | exact Or.inr rfl | omega) (PB.f (by unfold okFix; omega))
  · refine Ev.iload_n dX2_addFixed_9 (Eq.refl 10) rfl ?_
    refine Ev.bipush dX2_addFixed_10 (Eq.refl 12) (by decide) ?_
    refine Ev.icmp_gt (tgt := 27) dX2_addFixed_12 (Eq.refl 15) (by decide) ⟨by omega, by omega⟩ ⟨by omega, by omega⟩ (fun c12 => ?_) (fun c12 => ?_)
    · refine Ev.iconst dX2_addFixed_27 (Eq.refl 28) ?_
      exact Ev.zret dX2_addFixed_28 rfl (by first | exact bi01 _ | exact Or.inl rfl | exact Or.inr rfl | omega) (PB.f (by unfold okFix; omega))
    · refine Ev.iload_n dX2_addFixed_15 (Eq.refl 16) rfl ?_
      refine Ev.bipush dX2_addFixed_16 (Eq.refl 18) (by decide) ?_
      refine Ev.icmp_gt (tgt := 27) dX2_addFixed_18 (Eq.refl 21) (by decide) ⟨by omega, by omega⟩ ⟨by omega, by omega⟩ (fun c18 => ?_) (fun c18 => ?_)
      · refine Ev.iconst dX2_addFixed_27 (Eq.refl 28) ?_
        exact Ev.zret dX2_addFixed_28 rfl (by first | exact bi01 _ | exact Or.inl rfl | exact Or.inr rfl | omega) (PB.f (by unfold okFix; omega))
      · refine Ev.iload_n dX2_addFixed_21 (Eq.refl 22) rfl ?_
        refine Ev.bipush dX2_addFixed_22 (Eq.refl 24) (by decide) ?_
        refine Ev.icmp_le (tgt := 29) dX2_addFixed_24 (Eq.refl 27) (by decide) ⟨by omega, by omega⟩ ⟨by omega, by omega⟩ (fun c24 => ?_) (fun c24 => ?_)
        · refine Ev.aload_n dX2_addFixed_29 (Eq.refl 30) rfl ?_
          refine Ev.getR dX2_addFixed_30 (Eq.refl 33) fg_X2_9 (lyN0 (by assumption)) rfl (rN6 hR (by assumption)) ?_
          refine Ev.aload_n dX2_addFixed_33 (Eq.refl 34) rfl ?_
          refine Ev.getI dX2_addFixed_34 (Eq.refl 37) fg_X2_30 (lyN0 (by assumption)) rfl ?_
          refine Ev.iconst dX2_addFixed_37 (Eq.refl 38) ?_
          refine Ev.imul dX2_addFixed_38 (Eq.refl 39) ?_
          refine Ev.iload_n dX2_addFixed_39 (Eq.refl 40) rfl ?_
          refine Ev.iastore dX2_addFixed_40 (Eq.refl 41) (lyN1 (by assumption)) rfl (by omega) (by decide) (show (h.1 n 0 * 3).toNat = (h.1 n 0).toNat * 3 by omega) ?_
          refine Ev.aload_n dX2_addFixed_41 (Eq.refl 42) rfl ?_
          refine Ev.getR dX2_addFixed_42 (Eq.refl 45) fg_X2_9 (lyN0 (by assumption)) rfl (rN6 hR (by assumption)) ?_
          refine Ev.aload_n dX2_addFixed_45 (Eq.refl 46) rfl ?_
          refine Ev.getI dX2_addFixed_46 (Eq.refl 49) fg_X2_30 (lyN0 (by assumption)) rfl ?_
          rw [hI_ni n1]
          refine Ev.iconst dX2_addFixed_49 (Eq.refl 50) ?_
          refine Ev.imul dX2_addFixed_50 (Eq.refl 51) ?_
          refine Ev.iconst dX2_addFixed_51 (Eq.refl 52) ?_
          refine Ev.iadd dX2_addFixed_52 (Eq.refl 53) ?_
          refine Ev.iload_n dX2_addFixed_53 (Eq.refl 54) rfl ?_
          refine Ev.iastore dX2_addFixed_54 (Eq.refl 55) (lyN1 (by assumption)) rfl (by omega) (by decide) (show (h.1 n 0 * 3 + 1).toNat = (h.1 n 0).toNat * 3 + 1 by omega) ?_
          refine Ev.aload_n dX2_addFixed_55 (Eq.refl 56) rfl ?_
          refine Ev.getR dX2_addFixed_56 (Eq.refl 59) fg_X2_9 (lyN0 (by assumption)) rfl (rN6 hR (by assumption)) ?_
          refine Ev.aload_n dX2_addFixed_59 (Eq.refl 60) rfl ?_
          refine Ev.getI dX2_addFixed_60 (Eq.refl 63) fg_X2_30 (lyN0 (by assumption)) rfl ?_
          rw [hI_ni n1, hI_ni n1]
          refine Ev.iconst dX2_addFixed_63 (Eq.refl 64) ?_
          refine Ev.imul dX2_addFixed_64 (Eq.refl 65) ?_
          refine Ev.iconst dX2_addFixed_65 (Eq.refl 66) ?_
          refine Ev.iadd dX2_addFixed_66 (Eq.refl 67) ?_
          refine Ev.iload_n dX2_addFixed_67 (Eq.refl 68) rfl ?_
          refine Ev.iastore dX2_addFixed_68 (Eq.refl 69) (lyN1 (by assumption)) rfl (by omega) (by decide) (show (h.1 n 0 * 3 + 2).toNat = (h.1 n 0).toNat * 3 + 2 by omega) ?_
          refine Ev.aload_n dX2_addFixed_69 (Eq.refl 70) rfl ?_
          refine Ev.getR dX2_addFixed_70 (Eq.refl 73) fg_X2_15 (lyN0 (by assumption)) rfl (rN7 hR (by assumption)) ?_
          refine Ev.aload_n dX2_addFixed_73 (Eq.refl 74) rfl ?_
          refine Ev.getI dX2_addFixed_74 (Eq.refl 77) fg_X2_30 (lyN0 (by assumption)) rfl ?_
          rw [hI_ni n1, hI_ni n1, hI_ni n1]
          refine Ev.iconst dX2_addFixed_77 (Eq.refl 78) ?_
          refine Ev.iastore dX2_addFixed_78 (Eq.refl 79) (lyN2 (by assumption)) rfl (by omega) (by decide) (by first | with_reducible exact Int.toNat_natCast _ | exact Eq.refl _) ?_
          refine Ev.aload_n dX2_addFixed_79 (Eq.refl 80) rfl ?_
          refine Ev.dupR dX2_addFixed_80 (Eq.refl 81) ?_
          refine Ev.getI dX2_addFixed_81 (Eq.refl 84) fg_X2_30 (lyN0 (by assumption)) rfl ?_
          rw [hI_ni n2, hI_ni n1, hI_ni n1, hI_ni n1]
          refine Ev.iconst dX2_addFixed_84 (Eq.refl 85) ?_
          refine Ev.iadd dX2_addFixed_85 (Eq.refl 86) ?_
          refine Ev.putI dX2_addFixed_86 (Eq.refl 89) fp_X2_30 (lyN0 (by assumption)) rfl (Or.inl rfl) ?_
          refine Ev.iconst dX2_addFixed_89 (Eq.refl 90) ?_
          exact Ev.zret dX2_addFixed_90 rfl (by first | exact bi01 _ | exact Or.inl rfl | exact Or.inr rfl | omega) (PB.t (by unfold okFix; omega))
        · refine Ev.iconst dX2_addFixed_27 (Eq.refl 28) ?_
          exact Ev.zret dX2_addFixed_28 rfl (by first | exact bi01 _ | exact Or.inl rfl | exact Or.inr rfl | omega) (PB.f (by unfold okFix; omega))
def cRol (h : Hp) (n : Nat) (r e : Int) : Hp := hI (hI h n 4 r) n 5 e
theorem c_tellRolls {h : Hp} {n : Nat} {r e : Int} (hn : isNet n) (hr : 0 ≤ r ∧ r ≤ 99) (he : 0 ≤ e ∧ e ≤ 99) : Ev mX2_tellRolls 1 0 (entL [.ref n, iv r, iv e] 3) [] h (PB (okRol r e) (cRol h n r e) h) := by
  show Ev mX2_tellRolls 1 0 [some (.ref n), some (iv r), some (iv e)] [] h _
  have i1 : I32 r := ⟨by omega, by omega⟩
  have i2 : I32 1 := ⟨by omega, by omega⟩
  have i3 : I32 99 := ⟨by omega, by omega⟩
  refine Ev.iload_n dX2_tellRolls_0 (Eq.refl 1) rfl ?_
  refine Ev.iconst dX2_tellRolls_1 (Eq.refl 2) ?_
  refine Ev.bipush dX2_tellRolls_2 (Eq.refl 4) (by decide) ?_
  refine Ev.cn3E dX2_tellRolls_4 (Eq.refl 7) rfl (Nat.le_of_ble_eq_true rfl) (by decide) rfl (Nat.le_of_ble_eq_true rfl) (c_isWithin (by assumption) (by assumption) (by assumption)) ?_
  refine Ev.if_eqB (tgt := 16) dX2_tellRolls_7 (Eq.refl 10) (by decide) (fun c7 => ?_) (fun c7 => ?_)
  · refine Ev.iconst dX2_tellRolls_16 (Eq.refl 17) ?_
    exact Ev.zret dX2_tellRolls_17 rfl (by first | exact bi01 _ | exact Or.inl rfl | exact Or.inr rfl | omega) (PB.f (by unfold okRol; omega))
  · refine Ev.iload_n dX2_tellRolls_10 (Eq.refl 11) rfl ?_
    refine Ev.bipush dX2_tellRolls_11 (Eq.refl 13) (by decide) ?_
    refine Ev.icmp_le (tgt := 18) dX2_tellRolls_13 (Eq.refl 16) (by decide) ⟨by omega, by omega⟩ ⟨by omega, by omega⟩ (fun c13 => ?_) (fun c13 => ?_)
    · refine Ev.aload_n dX2_tellRolls_18 (Eq.refl 19) rfl ?_
      refine Ev.iload_n dX2_tellRolls_19 (Eq.refl 20) rfl ?_
      refine Ev.putI dX2_tellRolls_20 (Eq.refl 23) fp_X2_43 (lyN0 (by assumption)) rfl (Or.inl rfl) ?_
      refine Ev.aload_n dX2_tellRolls_23 (Eq.refl 24) rfl ?_
      refine Ev.iload_n dX2_tellRolls_24 (Eq.refl 25) rfl ?_
      refine Ev.putI dX2_tellRolls_25 (Eq.refl 28) fp_X2_46 (lyN0 (by assumption)) rfl (Or.inl rfl) ?_
      refine Ev.iconst dX2_tellRolls_28 (Eq.refl 29) ?_
      exact Ev.zret dX2_tellRolls_29 rfl (by first | exact bi01 _ | exact Or.inl rfl | exact Or.inr rfl | omega) (PB.t (by unfold okRol; omega))
    · refine Ev.iconst dX2_tellRolls_16 (Eq.refl 17) ?_
      exact Ev.zret dX2_tellRolls_17 rfl (by first | exact bi01 _ | exact Or.inl rfl | exact Or.inr rfl | omega) (PB.f (by unfold okRol; omega))
theorem i32N {x : Int} (h0 : 0 ≤ x) (h1 : x ≤ 2147483647) : I32 x := ⟨by omega, h1⟩
theorem NOk.ends {h : Hp} {n : Nat} (ok : NOk h n) : ∀ s : Nat, (s : Int) < h.1 n 2 → I32 (h.1 (n + 3) s) ∧ I32 (h.1 (n + 4) s) := fun s hs => by
  have := ok.2.2.2.2.1 s hs
  have := ok.1
  exact ⟨i32N (by omega) (by omega), i32N (by omega) (by omega)⟩
theorem sAt_deg {h : Hp} {n : Nat} {j x : Int} (ok : NOk h n) (hj : 0 ≤ j) (hx : isSAt h n j (h.1 n 2).toNat x) : cnt (fun s => x.toNat.testBit s) 14 = vDeg (cV h n) j.toNat := by
  have hS := ok.2.2.1
  have key : ∀ k, k ≤ 14 → cnt (fun s => x.toNat.testBit s) k = cnt (fun s => decide (s < (h.1 n 2).toNat ∧ (vA (cV h n) s = j.toNat ∨ vB (cV h n) s = j.toNat))) k := fun k _ => cnt_congr k (fun s _ => by
    have e := hx.2.2 s
    rw [Bool.eq_iff_iff, decide_eq_true_iff]
    refine e.trans ⟨fun q => ?_, fun q => ?_⟩
    · have hs : (s : Int) < h.1 n 2 := by omega
      have := cV_A ok hs
      have := cV_B ok hs
      exact ⟨q.1, by omega⟩
    · have hs : (s : Int) < h.1 n 2 := by omega
      have := cV_A ok hs
      have := cV_B ok hs
      exact ⟨q.1, by omega⟩)
  rw [key 14 (by omega)]
  unfold vDeg
  have hS2 : vS (cV h n) = (h.1 n 2).toNat := rfl
  rw [hS2]
  have cut : ∀ (f : Nat → Bool) (m : Nat), ∀ k, m ≤ k → cnt (fun s => decide (s < m) && f s) k = cnt f m := by
    intro f m k hk
    induction k with
    | zero => have : m = 0 := by omega
              rw [this]; rfl
    | succ k ih =>
      by_cases e : m = k + 1
      · subst e
        exact cnt_congr _ (fun s hs => by simp [hs])
      · rw [cnt, ih (by omega)]
        have : ¬ k < m := by omega
        simp [this]
  rw [← cut (fun s => decide (vA (cV h n) s = j.toNat ∨ vB (cV h n) s = j.toNat)) (h.1 n 2).toNat 14 (by omega)]
  exact cnt_congr _ (fun s _ => by simp [Bool.decide_and])
theorem sAt_lt {h : Hp} {n : Nat} {j x : Int} (ok : NOk h n) (hx : isSAt h n j (h.1 n 2).toNat x) : x < 16384 := Int.lt_of_lt_of_le hx.2.1 (by have := p2le (show (h.1 n 2).toNat ≤ 14 by have := ok.2.2.1; omega); omega)
theorem c_takesNoMore {h : Hp} {n : Nat} {j : Int} (hR : ROk h.2.2) (hn : isNet n) (ok : NOk h n) (hj : 0 ≤ j ∧ j < 10) : Ev mX2_takesNoMore 1 0 (entL [.ref n, iv j] 2) [] h (PE (bi (vFull (cV h n) j.toNat)) h) := by
  show Ev mX2_takesNoMore 1 0 [some (.ref n), some (iv j)] [] h _
  have hF := ok.2.1.1
  have hF2 := ok.f1
  have hS := ok.2.2.1
  have i1 : I32 j := ⟨by omega, by omega⟩
  have he := ok.ends
  have hf := cV_F (j := j.toNat) ok
  refine Ev.aload_n dX2_takesNoMore_0 (Eq.refl 1) rfl ?_
  refine Ev.iload_n dX2_takesNoMore_1 (Eq.refl 2) rfl ?_
  refine Ev.cv1E dX2_takesNoMore_2 (Eq.refl 5) cw_X2_75 (Nat.le_of_ble_eq_true rfl) (by decide) (lyN0 (by assumption)) rfl rfl (Nat.le_of_ble_eq_true rfl) (c_isFree (by assumption) (by omega) (by omega)) ?_
  refine Ev.if_eqB (tgt := 24) dX2_takesNoMore_5 (Eq.refl 8) (by decide) (fun c5 => ?_) (fun c5 => ?_)
  · refine Ev.iconst dX2_takesNoMore_24 (Eq.refl 25) ?_
    exact Ev.zret dX2_takesNoMore_25 rfl (by first | exact bi01 _ | exact Or.inl rfl | exact Or.inr rfl | omega) (PE.of (by first | exact (bi_f (fun z => by first | exact c5 (hf.mpr z.1) | (have := z.2; omega))).symm | exact (bi_t ⟨hf.mp c5, by omega⟩).symm))
  · refine Ev.aload_n dX2_takesNoMore_8 (Eq.refl 9) rfl ?_
    refine Ev.iload_n dX2_takesNoMore_9 (Eq.refl 10) rfl ?_
    refine Ev.cv1I dX2_takesNoMore_10 (Eq.refl 13) cw_X2_69 (Nat.le_of_ble_eq_true rfl) (by decide) (lyN0 (by assumption)) rfl rfl (Nat.le_of_ble_eq_true rfl) (c_strandsAt hR (by assumption) (by omega) (by assumption) (by assumption)) (fun x10 g10 hp10 => ?_)
    obtain ⟨rfl, hx⟩ := hp10
    have hx0 := hx.1
    have hx1 := sAt_lt ok hx
    have hx2 := sAt_deg ok hj.1 hx
    have hx3 := cnt_le (fun s => x10.toNat.testBit s) 14
    refine Ev.cs1E dX2_takesNoMore_13 (Eq.refl 16) cw_X2_55 (Nat.le_of_ble_eq_true rfl) (by decide) rfl (Nat.le_of_ble_eq_true rfl) (c_bitCount (by omega) (by omega)) ?_
    refine Ev.iconst dX2_takesNoMore_16 (Eq.refl 17) ?_
    refine Ev.icmp_lt (tgt := 24) dX2_takesNoMore_17 (Eq.refl 20) (by decide) ⟨by omega, by omega⟩ ⟨by omega, by omega⟩ (fun c17 => ?_) (fun c17 => ?_)
    · refine Ev.iconst dX2_takesNoMore_24 (Eq.refl 25) ?_
      exact Ev.zret dX2_takesNoMore_25 rfl (by first | exact bi01 _ | exact Or.inl rfl | exact Or.inr rfl | omega) (PE.of (by first | exact (bi_f (fun z => by first | exact c5 (hf.mpr z.1) | (have := z.2; omega))).symm | exact (bi_t ⟨hf.mp c5, by omega⟩).symm))
    · refine Ev.iconst dX2_takesNoMore_20 (Eq.refl 21) ?_
      refine Ev.goto' (pc' := 25) dX2_takesNoMore_21 (by decide) ?_
      exact Ev.zret dX2_takesNoMore_25 rfl (by first | exact bi01 _ | exact Or.inl rfl | exact Or.inr rfl | omega) (PE.of (by first | exact (bi_f (fun z => by first | exact c5 (hf.mpr z.1) | (have := z.2; omega))).symm | exact (bi_t ⟨hf.mp c5, by omega⟩).symm))
