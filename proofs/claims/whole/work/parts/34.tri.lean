/-! Net.isNeeded, Past, Trials -/
theorem aH_congr {v : Nv} {G G' : Nat → Prop} (h : ∀ s, s < vS v → (G s ↔ G' s)) : aH v G ↔ aH v G' := ⟨fun q j hj hf => (hg_congr h j).mp (q j hj hf), fun q j hj hf => (hg_congr h j).mpr (q j hj hf)⟩
theorem bwoG {h : Hp} {n : Nat} {x : Int} {G : Nat → Prop} (ok : NOk h n) (hx : ∀ j, tb x j ↔ j < vJ (cV h n) ∧ hg (cV h n) G j) : bwo (h.1 n 1) x = 0 ↔ aH (cV h n) G := by
  constructor
  · intro e j hj hf
    have h1 := (cV_F ok).mpr hf
    by_cases z : tb x j
    · exact ((hx j).mp z).2
    · have := tb_wo.mpr ⟨h1, z⟩
      rw [e] at this
      simp [tb] at this
  · intro q
    refine tb_ext (Int.natCast_nonneg _) (Int.le_refl 0) (fun j => ⟨fun z => ?_, fun z => by simp [tb] at z⟩)
    obtain ⟨z1, z2⟩ := tb_wo.mp z
    have hf := (cV_F ok).mp z1
    have hj : j < vJ (cV h n) := by
      have := (decide_eq_true_iff.mp (show decide ((j : Int) < h.1 n 0 ∧ tb (h.1 n 1) j) = true from hf)).1
      have := cV_J ok
      omega
    exact absurd ((hx j).mpr ⟨hj, q j hj hf⟩) z2
def ndd (v : Nv) (k : Nat) : Prop := ¬ aH v (fun s => vH v s = true ∧ s ≠ k)
theorem c_isNeeded {h : Hp} {n k : Nat} (hR : ROk h.2.2) (hn : isNet n) (ok : NOk h n) (hk : k < 14) : Ev mX2_isNeeded 1 0 (entL [.ref n, iv (k : Int)] 2) [] h (PE (bi (ndd (cV h n) k)) h) := by
  show Ev mX2_isNeeded 1 0 [some (.ref n), some (iv (k : Int))] [] h _
  have hF := ok.2.1.1
  have hF2 := ok.f1
  have hH := ok.2.2.2.1.1
  have hH2 := ok.f3
  have hg3 : 0 ≤ bwo (h.1 n 3) (1 * (2 : Int) ^ ((k : Int)).toNat) ∧ bwo (h.1 n 3) (1 * (2 : Int) ^ ((k : Int)).toNat) ≤ 2147483647 := ⟨Int.natCast_nonneg _, (bwoR (by omega)).2⟩
  refine Ev.aload_n dX2_isNeeded_0 (Eq.refl 1) rfl ?_
  refine Ev.getI dX2_isNeeded_1 (Eq.refl 4) fg_X2_34 (lyN0 (by assumption)) rfl ?_
  refine Ev.aload_n dX2_isNeeded_4 (Eq.refl 5) rfl ?_
  refine Ev.aload_n dX2_isNeeded_5 (Eq.refl 6) rfl ?_
  refine Ev.getI dX2_isNeeded_6 (Eq.refl 9) fg_X2_40 (lyN0 (by assumption)) rfl ?_
  refine Ev.iconst dX2_isNeeded_9 (Eq.refl 10) ?_
  refine Ev.iload_n dX2_isNeeded_10 (Eq.refl 11) rfl ?_
  refine Ev.ishl dX2_isNeeded_11 (Eq.refl 12) (b_shl (by omega) (by omega) (by omega) (shl1 (by omega))) ?_
  refine Ev.iconst dX2_isNeeded_12 (Eq.refl 13) ?_
  refine Ev.ixor dX2_isNeeded_13 (Eq.refl 14) (b_not shl0) ?_
  refine Ev.iand dX2_isNeeded_14 (Eq.refl 15) (b_andn (by omega) shl0) ?_
  refine Ev.cv1I dX2_isNeeded_15 (Eq.refl 18) cw_X2_78 (Nat.le_of_ble_eq_true rfl) (by decide) (lyN0 (by assumption)) rfl rfl (Nat.le_of_ble_eq_true rfl) (c_hungJoints hR (by assumption) (by assumption) (by assumption)) (fun x15 g15 hp15 => ?_)
  obtain ⟨rfl, hx0, hx1, hx2⟩ := hp15
  refine Ev.iconst dX2_isNeeded_18 (Eq.refl 19) ?_
  refine Ev.ixor dX2_isNeeded_19 (Eq.refl 20) (b_not (by omega)) ?_
  refine Ev.iand dX2_isNeeded_20 (Eq.refl 21) (b_andn (by omega) (by omega)) ?_
  have e0 : bwo (g15.1 n 1) x15 = 0 ↔ aH (cV g15 n) (fun s => vH (cV g15 n) s = true ∧ s ≠ k) := (bwoG ok hx2).trans (aH_congr (fun s _ => by rw [tb_wo, Int.toNat_natCast, tb_one, cV_H ok]))
  refine Ev.if_eq (tgt := 28) dX2_isNeeded_21 (Eq.refl 24) (by decide) (bwoR (by omega)) (fun c21 => ?_) (fun c21 => ?_)
  · refine Ev.iconst dX2_isNeeded_28 (Eq.refl 29) ?_
    exact Ev.zret dX2_isNeeded_29 rfl (by first | exact bi01 _ | exact Or.inl rfl | exact Or.inr rfl | omega) (PE.of (by first | exact (bi_f (fun z => z (e0.mp (by assumption)))).symm | exact (bi_t (fun z => by have := e0.mpr z; contradiction)).symm))
  · refine Ev.iconst dX2_isNeeded_24 (Eq.refl 25) ?_
    refine Ev.goto' (pc' := 29) dX2_isNeeded_25 (by decide) ?_
    exact Ev.zret dX2_isNeeded_29 rfl (by first | exact bi01 _ | exact Or.inl rfl | exact Or.inr rfl | omega) (PE.of (by first | exact (bi_f (fun z => z (e0.mp (by assumption)))).symm | exact (bi_t (fun z => by have := e0.mpr z; contradiction)).symm))
/-- the past: t = 0 the latest -/
def PastOk (h : Hp) (k : Nat) (pv : Nat → Nv) : Prop := ∃ i : Nat, i < 6 ∧ h.1 5 1 = (i : Int) ∧ h.1 5 2 = (k : Int) ∧ k ≤ 6 ∧ ∀ t, t < k → NOk h (45 + 7 * ((i + 5 - t) % 6)) ∧ cV h (45 + 7 * ((i + 5 - t) % 6)) = pv t
def inPs (i : Nat) : Prop := i = 5 ∨ (45 ≤ i ∧ i ≤ 86)
theorem cCpy_L {h : Hp} {n o : Nat} : (cCpy h n o).2 = h.2 := rfl
theorem Fr_cpy {h : Hp} {n o : Nat} : Fr (inN n) h (cCpy h n o) := ⟨fun i q j => cCpy_o (by unfold inN at q; omega), fun _ _ _ => rfl, rfl⟩
theorem c_keep {h : Hp} {n k : Nat} {pv : Nat → Nv} (hR : ROk h.2.2) (hn : isNet n) (hn2 : n < 45) (ok : NOk h n) (hp : PastOk h k pv) : Ev mX3_keep 2 0 (entL [.ref 5, .ref n] 2) [] h (PV (fun h' => Fr inPs h h' ∧ PastOk h' (if k < 6 then k + 1 else 6) (fun t => if t = 0 then cV h n else pv (t - 1)))) := by
  show Ev mX3_keep 2 0 [some (.ref 5), some (.ref n)] [] h _
  obtain ⟨i, hi, e1, e2, hk, hpv⟩ := hp
  have hni : isNet (45 + 7 * i) := by omega
  have hno : n ≠ 45 + 7 * i := by omega
  have hR' : ROk (cCpy h (45 + 7 * i) n).2.2 := hR
  have c1 : (cCpy h (45 + 7 * i) n).1 5 1 = (i : Int) := by rw [cCpy_o (by omega)]; exact e1
  have c2 : (cCpy h (45 + 7 * i) n).1 5 2 = (k : Int) := by rw [cCpy_o (by omega)]; exact e2
  have hcv := cCpy_VN hni hn hno ok
  have fin : ∀ x y : Int, x = (((i + 1) % 6 : Nat) : Int) → y = ((if k < 6 then k + 1 else 6 : Nat) : Int) → Fr inPs h (hI (hI (cCpy h (45 + 7 * i) n) 5 1 x) 5 2 y) ∧ PastOk (hI (hI (cCpy h (45 + 7 * i) n) 5 1 x) 5 2 y) (if k < 6 then k + 1 else 6) (fun t => if t = 0 then cV h n else pv (t - 1)) := fun x y hx hy => by
    refine ⟨((Fr_cpy.up (fun j q => by unfold inN at q; unfold inPs; omega)).wI (Or.inl rfl)).wI (Or.inl rfl), (i + 1) % 6, by omega, ?_, ?_, by split <;> omega, fun t ht => ?_⟩
    · rw [hI_nk (by omega), hI_eq, hx]
    · rw [hI_eq, hy]
    · have sn : ∀ m, isNet m → sameN (hI (hI (cCpy h (45 + 7 * i) n) 5 1 x) 5 2 y) (cCpy h (45 + 7 * i) n) m := fun m hm a ha b => by rw [hI_ni (by omega), hI_ni (by omega)]
      have hm : isNet (45 + 7 * (((i + 1) % 6 + 5 - t) % 6)) := by omega
      have ht2 : t < 6 ∧ t < k + 1 := by split at ht <;> omega
      refine ⟨(sn _ hm).ok ?_, (sn _ hm).V.trans ?_⟩
      · by_cases t0 : t = 0
        · rw [show ((i + 1) % 6 + 5 - t) % 6 = i by omega]; exact hcv.2
        · have hq := hpv (t - 1) (by split at ht <;> omega)
          rw [show ((i + 1) % 6 + 5 - t) % 6 = (i + 5 - (t - 1)) % 6 by omega]
          have hne : (i + 5 - (t - 1)) % 6 ≠ i := by split at ht <;> omega
          exact sameN.ok (fun a ha b => cCpy_o (by omega)) hq.1
      · by_cases t0 : t = 0
        · rw [show ((i + 1) % 6 + 5 - t) % 6 = i by omega, hcv.1]
          show _ = if t = 0 then _ else _
          rw [if_pos t0]
        · have hq := hpv (t - 1) (by split at ht <;> omega)
          rw [show ((i + 1) % 6 + 5 - t) % 6 = (i + 5 - (t - 1)) % 6 by omega]
          have hne : (i + 5 - (t - 1)) % 6 ≠ i := by split at ht <;> omega
          show _ = if t = 0 then _ else _
          rw [if_neg t0, ← hq.2]
          exact sameN.V (fun a ha b => cCpy_o (by omega))
  refine Ev.aload_n dX3_keep_0 (Eq.refl 1) rfl ?_
  refine Ev.getR dX3_keep_1 (Eq.refl 4) fg_X3_11 rfl rfl (rX3_0 hR) ?_
  refine Ev.aload_n dX3_keep_4 (Eq.refl 5) rfl ?_
  refine Ev.getI dX3_keep_5 (Eq.refl 8) fg_X3_18 rfl rfl ?_
  rw [e1]
  refine Ev.aaload dX3_keep_8 (Eq.refl 9) rfl rfl (Or.inl ⟨_, rfl⟩) (by omega) (by decide) (by first | with_reducible exact Int.toNat_natCast _ | exact Eq.refl _) (rX3_i hR (i := i) hi) ?_
  refine Ev.aload_n dX3_keep_9 (Eq.refl 10) rfl ?_
  refine Ev.cv1V dX3_keep_10 (Eq.refl 13) cw_X3_22 (Nat.le_of_ble_eq_true rfl) (by decide) (lyN0 (by assumption)) rfl rfl (Nat.le_of_ble_eq_true rfl) (c_copyFrom hR (by assumption) (by assumption) (by assumption)) (fun g10 hp10 => ?_)
  subst hp10
  have hR := hR'
  refine Ev.aload_n dX3_keep_13 (Eq.refl 14) rfl ?_
  refine Ev.aload_n dX3_keep_14 (Eq.refl 15) rfl ?_
  refine Ev.getI dX3_keep_15 (Eq.refl 18) fg_X3_18 rfl rfl ?_
  rw [c1]
  refine Ev.iconst dX3_keep_18 (Eq.refl 19) ?_
  refine Ev.iadd dX3_keep_19 (Eq.refl 20) ?_
  refine Ev.bipush dX3_keep_20 (Eq.refl 22) (by decide) ?_
  refine Ev.irem dX3_keep_22 (Eq.refl 23) ⟨by omega, by omega⟩ ⟨by omega, by omega⟩ (by omega) ?_
  refine Ev.putI dX3_keep_23 (Eq.refl 26) fp_X3_18 rfl rfl (Or.inl rfl) ?_
  refine Ev.aload_n dX3_keep_26 (Eq.refl 27) rfl ?_
  refine Ev.aload_n dX3_keep_27 (Eq.refl 28) rfl ?_
  refine Ev.getI dX3_keep_28 (Eq.refl 31) fg_X3_26 rfl rfl ?_
  rw [hI_nk (by omega), c2]
  refine Ev.iconst dX3_keep_31 (Eq.refl 32) ?_
  refine Ev.iadd dX3_keep_32 (Eq.refl 33) ?_
  refine Ev.bipush dX3_keep_33 (Eq.refl 35) (by decide) ?_
  refine Ev.mmin dX3_keep_35 (Eq.refl 38) wm_X3_29 (by decide) (Nat.le_of_ble_eq_true rfl) ⟨by omega, by omega⟩ ⟨by omega, by omega⟩ ?_
  refine Ev.putI dX3_keep_38 (Eq.refl 41) fp_X3_26 rfl rfl (Or.inl rfl) ?_
  exact Ev.vret dX3_keep_41 rfl (⟨rfl, fin _ _ (by rw [Int.tmod_eq_emod_of_nonneg (by omega)]; omega) (by split <;> split <;> omega)⟩)
theorem c_giveBack {h : Hp} {n k : Nat} {pv : Nat → Nv} (hR : ROk h.2.2) (hn : isNet n) (hn2 : n < 45) (hp : PastOk h k pv) : Ev mX3_giveBack 2 0 (entL [.ref 5, .ref n] 2) [] h (PI (fun x h' => (k = 0 ∧ x = 0 ∧ h' = h) ∨ (0 < k ∧ x = 1 ∧ Fr (fun i => i = 5 ∨ inN n i) h h' ∧ PastOk h' (k - 1) (fun t => pv (t + 1)) ∧ cV h' n = pv 0 ∧ NOk h' n))) := by
  show Ev mX3_giveBack 2 0 [some (.ref 5), some (.ref n)] [] h _
  obtain ⟨i, hi, e1, e2, hk, hpv⟩ := hp
  by_cases k0 : k = 0
  · subst k0
    refine Ev.aload_n dX3_giveBack_0 (Eq.refl 1) rfl ?_
    refine Ev.getI dX3_giveBack_1 (Eq.refl 4) fg_X3_26 rfl rfl ?_
    rw [e2]
    refine Ev.if_ne (tgt := 9) dX3_giveBack_4 (Eq.refl 7) (by decide) ⟨by omega, by omega⟩ (fun c4 => ?_) (fun c4 => ?_)
    · omega
    · refine Ev.iconst dX3_giveBack_7 (Eq.refl 8) ?_
      exact Ev.zret dX3_giveBack_8 rfl (by first | exact bi01 _ | exact Or.inl rfl | exact Or.inr rfl | omega) (⟨_, rfl, Or.inl ⟨rfl, rfl, rfl⟩⟩)
  · have hni : isNet (45 + 7 * ((i + 5) % 6)) := by omega
    have hno : 45 + 7 * ((i + 5) % 6) ≠ n := by omega
    have em : (((i : Int) + 6 - 1).tmod 6) = (((i + 5) % 6 : Nat) : Int) := by rw [Int.tmod_eq_emod_of_nonneg (by omega)]; omega
    have fin : ∀ (H : Hp), H = hI (hI h 5 1 (((i + 5) % 6 : Nat) : Int)) 5 2 ((k : Int) - 1) → Fr (fun i => i = 5 ∨ inN n i) h (cCpy H n (45 + 7 * ((i + 5) % 6))) ∧ PastOk (cCpy H n (45 + 7 * ((i + 5) % 6))) (k - 1) (fun t => pv (t + 1)) ∧ cV (cCpy H n (45 + 7 * ((i + 5) % 6))) n = pv 0 ∧ NOk (cCpy H n (45 + 7 * ((i + 5) % 6))) n := fun H hH => by
      have sn : ∀ m, isNet m → sameN H h m := fun m hm a ha b => by rw [hH, hI_ni (by omega), hI_ni (by omega)]
      have q0 := hpv 0 (by omega)
      rw [Nat.sub_zero] at q0
      have hcv := cCpy_VN (h := H) hn hni hno ((sn _ hni).ok q0.1)
      refine ⟨?_, ⟨(i + 5) % 6, by omega, ?_, ?_, by omega, fun t ht => ?_⟩, hcv.1.trans ((sn _ hni).V.trans q0.2), hcv.2⟩
      · refine Fr.tr (S := fun i => i = 5) (T := inN n) (h' := H) ?_ Fr_cpy (fun i e => Or.inl e) (fun i e => Or.inr e)
        rw [hH]
        exact Fr.wI (S := fun i => i = 5) (Fr.wI (S := fun i => i = 5) Fr.rf rfl) rfl
      · rw [cCpy_o (by omega), hH, hI_nk (by omega), hI_eq]
      · rw [cCpy_o (by omega), hH, hI_eq]; omega
      · have q := hpv (t + 1) (by omega)
        rw [show i + 5 - (t + 1) = i + 5 - 1 - t by omega] at q
        have e : ((i + 5) % 6 + 5 - t) % 6 = (i + 5 - 1 - t) % 6 := by omega
        have hm : isNet (45 + 7 * ((i + 5 - 1 - t) % 6)) := by omega
        have s2 : sameN (cCpy H n (45 + 7 * ((i + 5) % 6))) h (45 + 7 * ((i + 5 - 1 - t) % 6)) := fun a ha b => by rw [cCpy_o (by omega)]; exact sn _ hm a ha b
        rw [e]
        exact ⟨s2.ok q.1, s2.V.trans q.2⟩
    refine Ev.aload_n dX3_giveBack_0 (Eq.refl 1) rfl ?_
    refine Ev.getI dX3_giveBack_1 (Eq.refl 4) fg_X3_26 rfl rfl ?_
    rw [e2]
    refine Ev.if_ne (tgt := 9) dX3_giveBack_4 (Eq.refl 7) (by decide) ⟨by omega, by omega⟩ (fun c4 => ?_) (fun c4 => ?_)
    · refine Ev.aload_n dX3_giveBack_9 (Eq.refl 10) rfl ?_
      refine Ev.aload_n dX3_giveBack_10 (Eq.refl 11) rfl ?_
      refine Ev.getI dX3_giveBack_11 (Eq.refl 14) fg_X3_18 rfl rfl ?_
      rw [e1]
      refine Ev.bipush dX3_giveBack_14 (Eq.refl 16) (by decide) ?_
      refine Ev.iadd dX3_giveBack_16 (Eq.refl 17) ?_
      refine Ev.iconst dX3_giveBack_17 (Eq.refl 18) ?_
      refine Ev.isub dX3_giveBack_18 (Eq.refl 19) ?_
      refine Ev.bipush dX3_giveBack_19 (Eq.refl 21) (by decide) ?_
      refine Ev.irem dX3_giveBack_21 (Eq.refl 22) ⟨by omega, by omega⟩ ⟨by omega, by omega⟩ (by omega) ?_
      rw [em]
      refine Ev.putI dX3_giveBack_22 (Eq.refl 25) fp_X3_18 rfl rfl (Or.inl rfl) ?_
      refine Ev.aload_n dX3_giveBack_25 (Eq.refl 26) rfl ?_
      refine Ev.dupR dX3_giveBack_26 (Eq.refl 27) ?_
      refine Ev.getI dX3_giveBack_27 (Eq.refl 30) fg_X3_26 rfl rfl ?_
      rw [hI_nk (by omega), e2]
      refine Ev.iconst dX3_giveBack_30 (Eq.refl 31) ?_
      refine Ev.isub dX3_giveBack_31 (Eq.refl 32) ?_
      refine Ev.putI dX3_giveBack_32 (Eq.refl 35) fp_X3_26 rfl rfl (Or.inl rfl) ?_
      refine Ev.aload_n dX3_giveBack_35 (Eq.refl 36) rfl ?_
      refine Ev.aload_n dX3_giveBack_36 (Eq.refl 37) rfl ?_
      refine Ev.getR dX3_giveBack_37 (Eq.refl 40) fg_X3_11 rfl rfl (rX3_0 hR) ?_
      refine Ev.aload_n dX3_giveBack_40 (Eq.refl 41) rfl ?_
      refine Ev.getI dX3_giveBack_41 (Eq.refl 44) fg_X3_18 rfl rfl ?_
      rw [hI_nk (by omega), hI_eq]
      refine Ev.aaload dX3_giveBack_44 (Eq.refl 45) rfl rfl (Or.inl ⟨_, rfl⟩) (by omega) (by decide) (by first | with_reducible exact Int.toNat_natCast _ | exact Eq.refl _) (rX3_i (R := h.2.2) hR (i := (i + 5) % 6) (by omega)) ?_
      refine Ev.cv1V dX3_giveBack_45 (Eq.refl 48) cw_X3_22 (Nat.le_of_ble_eq_true rfl) (by decide) (lyN0 (by assumption)) rfl rfl (Nat.le_of_ble_eq_true rfl) (c_copyFrom (show ROk h.2.2 from hR) hn hni hno) (fun g45 hp45 => ?_)
      subst hp45
      refine Ev.iconst dX3_giveBack_48 (Eq.refl 49) ?_
      exact Ev.zret dX3_giveBack_49 rfl (by first | exact bi01 _ | exact Or.inl rfl | exact Or.inr rfl | omega) (⟨_, rfl, Or.inr ⟨by omega, rfl, fin _ rfl⟩⟩)
    · omega
-- rounds
noncomputable def rnd (v : Nv) : Nv := vQs v (nQ v (len v))
def chg (v : Nv) : Prop := ∃ k, k < vS v ∧ nQ v (len v) k ≠ vQ v k
noncomputable def itr (v : Nv) : Nat → Nv
  | 0 => v
  | n + 1 => rnd (itr v n)
theorem nQ_b {v : Nv} (hv : VOk v) {f : Nat → Int} {k : Nat} (hk : k < vS v) : 1 ≤ nQ v f k ∧ nQ v f k ≤ 5 := by
  have := hv.2.2.2.1 k hk
  unfold nQ
  repeat' split
  all_goals omega
theorem nQ_c {v : Nv} {f g : Nat → Int} {k : Nat} (h : f k = g k) : nQ v f k = nQ v g k := by unfold nQ; rw [h]
theorem aH_rnd {v : Nv} (h : aH v (hgV v)) : aH (rnd v) (hgV (rnd v)) := h
theorem aH_itr {v : Nv} (h : aH v (hgV v)) : ∀ n, aH (itr v n) (hgV (itr v n))
  | 0 => h
  | n + 1 => aH_rnd (aH_itr h n)
theorem hDen_c {h : Hp} {n m : Nat} {f g : Nat → Int} (e : ∀ j, j < m → f j = g j) : hDen h n f m = hDen h n g m := by
  refine hp_ext (fun a b => ?_) (fun _ _ => rfl) rfl
  simp only [hDen_rd]
  by_cases q : a = n + 5 ∧ b < m
  · rw [if_pos q, if_pos q, e b q.2]
  · rw [if_neg q, if_neg q]
theorem Fr_den {h : Hp} {n m : Nat} {f : Nat → Int} : Fr (inN n) h (hDen h n f m) := ⟨fun i q j => hDen_ni (by unfold inN at q; omega), fun _ _ _ => rfl, rfl⟩
/-- a round of the class -/
theorem c_tellDensR {h : Hp} {n s : Nat} (hR : ROk h.2.2) (hn : isNet n) (hs : isShp s) (ok : NOk h n) (so : ShOk h s (cV h n)) : Ev mX2_tellDensitiesAnew 1 0 (entL [.ref n, .ref (s + 4)] 6) [] h (PI (fun x h' => Fr (inN n) h h' ∧ cV h' n = rnd (cV h n) ∧ NOk h' n ∧ x = bi (chg (cV h n)))) := by
  have hv := ok.2.2.2.2.2
  have eSt := cV_S ok
  have hq : ∀ k, k < vS (cV h n) → nQ (cV h n) (h.1 (s + 4)) k = nQ (cV h n) (len (cV h n)) k := fun k hk => nQ_c (so.2.2.2 k hk)
  refine Ev.mono (c_tellDens hR hn hs ok (fun k hk => ?_)) ?_
  · rw [so.2.2.2 k (by omega)]
    have := len_b hv so.1 (s := k) (by omega)
    omega
  · rintro v h' ⟨x, rfl, rfl, hx⟩
    refine ⟨x, rfl, Fr_den, ?_⟩
    rw [hDen_c hq]
    obtain ⟨q1, q2⟩ := cQs_VN (f := nQ (cV h n) (len (cV h n))) ok (fun k hk => nQ_b hv hk)
    refine ⟨q1, q2, hx.trans (bi_c ⟨?_, ?_⟩)⟩
    · rintro ⟨k, h1, h2⟩; exact ⟨k, h1, by rw [← hq k h1]; exact h2⟩
    · rintro ⟨k, h1, h2⟩; exact ⟨k, h1, by rw [hq k h1]; exact h2⟩
def inT (i : Nat) : Prop := i = 17 ∨ inN 38 i ∨ inS 87 i
def srP (v : Nv) (x a m : Int) : Prop := (∃ i : Nat, i ≤ 60 ∧ (∀ t, t < i → chg (itr v t)) ∧ ¬ chg (itr v i) ∧ x = 1 ∧ a = (i : Int) ∧ m = missV (itr v i)) ∨ ((∀ t, t ≤ 60 → chg (itr v t)) ∧ x = 0)
theorem c_seekRest {h : Hp} {n : Nat} (hR : ROk h.2.2) (hn : isNet n) (hn2 : n ≠ 38) (ok : NOk h n) (ha : aH (cV h n) (hgV (cV h n))) : Ev mX6_seekRest 4 0 (entL [.ref 17, .ref n] 3) [] h (PI (fun x h' => Fr inT h h' ∧ srP (cV h n) x (h'.1 17 2) (h'.1 17 3))) := by
  show Ev mX6_seekRest 4 0 [some (.ref 17), some (.ref n), none] [] h _
  have h38 : isNet 38 := by decide
  have h87 : isShp 87 := Or.inr rfl
  generalize hve : cV h n = v at *
  have LOOP : ∀ (m i : Nat) (g : Hp), 61 - i = m → i ≤ 61 → Fr inT h g → NOk g 38 → cV g 38 = itr v i → (∀ t, t < i → chg (itr v t)) → Ev mX6_seekRest 4 10 [some (.ref 17), some (.ref n), some (iv (i : Int))] [] g (PI (fun x h' => Fr inT h h' ∧ srP v x (h'.1 17 2) (h'.1 17 3))) := by
    intro m
    induction m using Nat.strongRecOn with
    | ind m ih =>
      intro i g hm hi hF okg ev hc
      have hR := hF.R hR
      have hai : aH (cV g 38) (hgV (cV g 38)) := by rw [ev]; exact aH_itr ha i
      refine Ev.iload_n dX6_seekRest_10 (Eq.refl 11) rfl ?_
      refine Ev.bipush dX6_seekRest_11 (Eq.refl 13) (by decide) ?_
      refine Ev.icmp_gt (tgt := 77) dX6_seekRest_13 (Eq.refl 16) (by decide) ⟨by omega, by omega⟩ ⟨by omega, by omega⟩ (fun c13 => ?_) (fun c13 => ?_)
      · have e : i = 61 := by omega
        refine Ev.iconst dX6_seekRest_77 (Eq.refl 78) ?_
        exact Ev.zret dX6_seekRest_78 rfl (by first | exact bi01 _ | exact Or.inl rfl | exact Or.inr rfl | omega) (⟨_, rfl, hF, Or.inr ⟨fun t ht => hc t (by omega), rfl⟩⟩)
      · refine Ev.aload_n dX6_seekRest_16 (Eq.refl 17) rfl ?_
        refine Ev.getR dX6_seekRest_17 (Eq.refl 20) fg_X6_21 rfl rfl (rX6_1 hR) ?_
        refine Ev.aload_n dX6_seekRest_20 (Eq.refl 21) rfl ?_
        refine Ev.getR dX6_seekRest_21 (Eq.refl 24) fg_X6_12 rfl rfl (rX6_0 hR) ?_
        refine Ev.cv1I dX6_seekRest_24 (Eq.refl 27) cw_X6_29 (Nat.le_of_ble_eq_true rfl) (by decide) (lyS0 (by assumption)) rfl rfl (Nat.le_of_ble_eq_true rfl) (c_find hR (by assumption) (by assumption) (by assumption)) (fun x24 g24 hp24 => ?_)
        rcases hp24 with ⟨z, _⟩ | ⟨_, rfl, hF2, so⟩
        · exact absurd hai z
        have hR := hF2.R hR
        have sm2 := hF2.same (n := 38) (fun i h1 h2 => by unfold inS; omega)
        have ok2 := sm2.ok okg
        rw [← sm2.V] at so
        refine Ev.if_ne (tgt := 32) dX6_seekRest_27 (Eq.refl 30) (by decide) ⟨by omega, by omega⟩ (fun c27 => ?_) (fun c27 => ?_)
        · refine Ev.aload_n dX6_seekRest_32 (Eq.refl 33) rfl ?_
          refine Ev.aload_n dX6_seekRest_33 (Eq.refl 34) rfl ?_
          refine Ev.getR dX6_seekRest_34 (Eq.refl 37) fg_X6_21 rfl rfl (rX6_1 hR) ?_
          refine Ev.aload_n dX6_seekRest_37 (Eq.refl 38) rfl ?_
          refine Ev.getR dX6_seekRest_38 (Eq.refl 41) fg_X6_12 rfl rfl (rX6_0 hR) ?_
          refine Ev.cv1E dX6_seekRest_41 (Eq.refl 44) cw_X6_33 (Nat.le_of_ble_eq_true rfl) (by decide) (lyS0 (by assumption)) rfl rfl (Nat.le_of_ble_eq_true rfl) (c_missed hR (by assumption) (by assumption) (by assumption) (by assumption)) ?_
          rw [sm2.V, ev]
          refine Ev.putI dX6_seekRest_44 (Eq.refl 47) fp_X6_37 rfl rfl (Or.inl rfl) ?_
          refine Ev.aload_n dX6_seekRest_47 (Eq.refl 48) rfl ?_
          refine Ev.getR dX6_seekRest_48 (Eq.refl 51) fg_X6_12 rfl rfl (rX6_0 hR) ?_
          refine Ev.aload_n dX6_seekRest_51 (Eq.refl 52) rfl ?_
          refine Ev.getR dX6_seekRest_52 (Eq.refl 55) fg_X6_21 rfl rfl (rX6_1 hR) ?_
          refine Ev.getR dX6_seekRest_55 (Eq.refl 58) fg_X6_40 (lyS0 (by assumption)) rfl (rS3 hR (by assumption)) ?_
          refine Ev.cv1I dX6_seekRest_58 (Eq.refl 61) cw_X6_44 (Nat.le_of_ble_eq_true rfl) (by decide) (lyN0 (by assumption)) rfl rfl (Nat.le_of_ble_eq_true rfl) (c_tellDensR (h := hI g24 17 3 (missV (itr v i))) (s := 87) hR h38 h87 (sameN.ok (g := g24) (fun a ha b => hI_ni (by omega)) ok2) (by rw [sameN.V (g := g24) (fun a ha b => hI_ni (by omega))]; exact ⟨so.1, so.2.1.fr (S := fun i => i = 17) ok2.2.2.2.2.2 (Fr.rf.wI rfl) (fun i h1 h2 => by unfold inS at h1; omega), fun j a hj h3 => by rw [hI_ni (by omega)]; exact so.2.2.1 j a hj h3, fun k hk => by rw [hI_ni (by omega)]; exact so.2.2.2 k hk⟩)) (fun x58 g58 hp58 => ?_)
          obtain ⟨hF3, ev3, ok3, hx⟩ := hp58
          have e38 : cV (hI g24 17 3 (missV (itr v i))) 38 = itr v i := (sameN.V (g := g24) (fun a ha b => hI_ni (by omega))).trans (sm2.V.trans ev)
          rw [e38] at ev3 hx
          have hF4 : Fr inT h g58 := ((hF.tr (U := inT) hF2 (fun _ z => z) (fun _ z => Or.inr (Or.inr z))).wI (Or.inl rfl)).tr hF3 (fun _ z => z) (fun _ z => Or.inr (Or.inl z))
          have m3 : g58.1 17 3 = missV (itr v i) := by rw [hF3.1 17 (by unfold inN; omega), hI_eq]
          have hx01 := bi01 (chg (itr v i))
          have hR := hF4.R (by assumption)
          refine Ev.if_ne (tgt := 71) dX6_seekRest_61 (Eq.refl 64) (by decide) ⟨by omega, by omega⟩ (fun c61 => ?_) (fun c61 => ?_)
          · have hcc : chg (itr v i) := Classical.byContradiction fun z => by rw [bi_f z] at hx; exact c61 hx
            refine Ev.ii2 dX6_seekRest_71 (Eq.refl 74) (by decide) rfl ?_
            refine Ev.goto' (pc' := 10) dX6_seekRest_74 (by decide) ?_
            exact ih _ (by omega) (i + 1) _ rfl (by omega) hF4 ok3 ev3 (fun t ht => if e : t = i then by rw [e]; exact hcc else hc t (by omega))
          · have hcc : ¬ chg (itr v i) := bi_0 (hx.symm.trans c61)
            refine Ev.aload_n dX6_seekRest_64 (Eq.refl 65) rfl ?_
            refine Ev.iload_n dX6_seekRest_65 (Eq.refl 66) rfl ?_
            refine Ev.putI dX6_seekRest_66 (Eq.refl 69) fp_X6_48 rfl rfl (Or.inl rfl) ?_
            refine Ev.iconst dX6_seekRest_69 (Eq.refl 70) ?_
            exact Ev.zret dX6_seekRest_70 rfl (by first | exact bi01 _ | exact Or.inl rfl | exact Or.inr rfl | omega) (⟨_, rfl, hF4.wI (Or.inl rfl), Or.inl ⟨i, by omega, hc, hcc, rfl, hI_eq, by rw [hI_nk (by omega)]; exact m3⟩⟩)
        · omega
  refine Ev.aload_n dX6_seekRest_0 (Eq.refl 1) rfl ?_
  refine Ev.getR dX6_seekRest_1 (Eq.refl 4) fg_X6_12 rfl rfl (rX6_0 hR) ?_
  refine Ev.aload_n dX6_seekRest_4 (Eq.refl 5) rfl ?_
  refine Ev.cv1V dX6_seekRest_5 (Eq.refl 8) cw_X6_25 (Nat.le_of_ble_eq_true rfl) (by decide) (lyN0 (by assumption)) rfl rfl (Nat.le_of_ble_eq_true rfl) (c_copyFrom hR h38 hn hn2) (fun g5 hp5 => ?_)
  subst hp5
  obtain ⟨cv1, cv2⟩ := cCpy_VN h38 hn hn2 ok
  refine Ev.iconst dX6_seekRest_8 (Eq.refl 9) ?_
  refine Ev.is2 dX6_seekRest_9 (Eq.refl 10) (by decide) rfl ?_
  exact LOOP _ 0 _ rfl (by omega) (Fr_cpy.up (fun i q => Or.inr (Or.inl q))) cv2 (cv1.trans hve) (fun t ht => by omega)
-- single changes
noncomputable def tQ (v : Nv) (s q : Nat) (st : Int × Int) : Int × Int := if missV (vQ1 v s q) < st.1 then (missV (vQ1 v s q), 10 * s + q) else st
noncomputable def tS (v : Nv) (s : Nat) (st : Int × Int) : Nat → Int × Int
  | 0 => st
  | q + 1 => tQ v s (q + 1) (tS v s st q)
noncomputable def tAl (v : Nv) : Nat → Int × Int
  | 0 => (missV v, -4)
  | k + 1 => if vH v k = true then tS v k (tAl v k) 5 else tAl v k
theorem vQ1_own {v : Nv} {s : Nat} : vQ1 v s (vQ v s) = v := nv_ext rfl rfl (fun _ => rfl) (fun _ _ => rfl) (fun _ => rfl) (fun _ => rfl) (fun _ => rfl) (fun t => by show (if t = s then vQ v s else vQ v t) = vQ v t; exact (if e : t = s then by rw [if_pos e, e] else by rw [if_neg e])) (fun _ => rfl) (fun _ => rfl) rfl rfl
theorem vQ1_2 {v : Nv} {s : Nat} {x y : Int} : vQ1 (vQ1 v s x) s y = vQ1 v s y := nv_ext rfl rfl (fun _ => rfl) (fun _ _ => rfl) (fun _ => rfl) (fun _ => rfl) (fun _ => rfl) (fun t => by show (if t = s then y else if t = s then x else vQ v t) = if t = s then y else vQ v t; split <;> rfl) (fun _ => rfl) (fun _ => rfl) rfl rfl
theorem VOk_Q1 {v : Nv} {k : Nat} {x : Int} (hv : VOk v) (hx : 1 ≤ x ∧ x ≤ 5) : VOk (vQ1 v k x) := by
  obtain ⟨v1, v2, v3, v4, v5, v6, v7, v8, v9, v10, v11⟩ := hv
  refine ⟨v1, v2, v3, fun s hs => ?_, v5, v6, v7, v8, v9, v10, v11⟩
  have q := v4 s hs
  exact ⟨q.1, q.2.1, q.2.2.1, by show 1 ≤ (if s = k then x else vQ v s); split <;> omega, by show (if s = k then x else vQ v s) ≤ 5; split <;> omega, q.2.2.2.2.2⟩
theorem tQ_b {v : Nv} {s q : Nat} {st : Int × Int} (hv : VOk v) (ha : aH v (hgV v)) (hq : 1 ≤ q ∧ q ≤ 5) (h : 0 ≤ st.1 ∧ st.1 ≤ missV v) : 0 ≤ (tQ v s q st).1 ∧ (tQ v s q st).1 ≤ missV v := by
  have := missV_b (VOk_Q1 (k := s) (x := (q : Int)) hv (by omega)) (show aH v (hgV v) from ha)
  unfold tQ
  split
  · next e => exact ⟨this.1, by show missV (vQ1 v s q) ≤ _; omega⟩
  · exact h
theorem tS_b {v : Nv} {s : Nat} {st : Int × Int} (hv : VOk v) (ha : aH v (hgV v)) (h : 0 ≤ st.1 ∧ st.1 ≤ missV v) : ∀ q, q ≤ 5 → 0 ≤ (tS v s st q).1 ∧ (tS v s st q).1 ≤ missV v
  | 0, _ => h
  | q + 1, hq => tQ_b hv ha (by omega) (tS_b hv ha h q (by omega))
theorem tAl_b {v : Nv} (hv : VOk v) (ha : aH v (hgV v)) : ∀ k, 0 ≤ (tAl v k).1 ∧ (tAl v k).1 ≤ missV v
  | 0 => ⟨(missV_b hv ha).1, Int.le_refl _⟩
  | k + 1 => by
    show 0 ≤ (if vH v k = true then tS v k (tAl v k) 5 else tAl v k).1 ∧ (if vH v k = true then tS v k (tAl v k) 5 else tAl v k).1 ≤ missV v
    split
    · exact tS_b hv ha (tAl_b hv ha k) 5 (by omega)
    · exact tAl_b hv ha k
theorem tQ_own {v : Nv} {s q : Nat} {st : Int × Int} (e : (q : Int) = vQ v s) (h : st.1 ≤ missV v) : tQ v s q st = st := by
  unfold tQ
  rw [e, vQ1_own, if_neg (by omega)]
theorem c_tryDens {h : Hp} {k : Nat} {v : Nv} (hR : ROk h.2.2) (ok : NOk h 38) (ev : cV h 38 = v) (ha : aH v (hgV v)) (hk : k < vS v) (hb : 0 ≤ h.1 17 3 ∧ h.1 17 3 ≤ missV v) : Ev mX6_tryDensitiesOf 4 0 (entL [.ref 17, iv (k : Int)] 4) [] h (PV (fun h' => Fr inT h h' ∧ NOk h' 38 ∧ cV h' 38 = v ∧ (h'.1 17 3, h'.1 17 2) = tS v k (h.1 17 3, h.1 17 2) 5)) := by
  show Ev mX6_tryDensitiesOf 4 0 [some (.ref 17), some (iv (k : Int)), none, none] [] h _
  have h38 : isNet 38 := by decide
  have h87 : isShp 87 := Or.inr rfl
  have hv : VOk v := ev ▸ ok.2.2.2.2.2
  have hS14 := hv.2.1
  have hE := hv.2.2.2.1 k hk
  have eSt := cV_S ok
  rw [ev] at eSt
  have eQ := cV_Q (h := h) (n := 38) (s := k) (by omega)
  rw [ev] at eQ
  generalize hst : (h.1 17 3, h.1 17 2) = st at *
  have hb2 : 0 ≤ st.1 ∧ st.1 ≤ missV v := by rw [← hst]; exact hb
  have mb := missV_b hv ha
  have LOOP : ∀ (m t : Nat) (g : Hp) (y : Int), 5 - t = m → t ≤ 5 → Fr inT h g → NOk g 38 → cV g 38 = vQ1 v k y → (g.1 17 3, g.1 17 2) = tS v k st t → Ev mX6_tryDensitiesOf 4 12 [some (.ref 17), some (iv (k : Int)), some (iv (vQ v k)), some (iv ((t : Int) + 1))] [] g (PV (fun h' => Fr inT h h' ∧ NOk h' 38 ∧ cV h' 38 = v ∧ (h'.1 17 3, h'.1 17 2) = tS v k st 5)) := by
    intro m
    induction m using Nat.strongRecOn with
    | ind m ih =>
      intro t g y hm ht hF okg evg hs
      have hR := hF.R hR
      have kS : k < vS (cV g 38) := by rw [evg]; exact hk
      have sb := tS_b (s := k) hv ha hb2 t ht
      have g3 : g.1 17 3 = (tS v k st t).1 := by rw [← hs]
      have g2 : g.1 17 2 = (tS v k st t).2 := by rw [← hs]
      by_cases t5 : t = 5
      · subst t5
        have hQ := cQ1_VN (h := g) (n := 38) (k := k) (x := vQ v k) okg kS (by omega)
        refine Ev.iload_n dX6_tryDensitiesOf_12 (Eq.refl 13) rfl ?_
        refine Ev.iconst dX6_tryDensitiesOf_13 (Eq.refl 14) ?_
        refine Ev.icmp_gt (tgt := 95) dX6_tryDensitiesOf_14 (Eq.refl 17) (by decide) ⟨by omega, by omega⟩ ⟨by omega, by omega⟩ (fun c14 => ?_) (fun c14 => ?_)
        · refine Ev.aload_n dX6_tryDensitiesOf_95 (Eq.refl 96) rfl ?_
          refine Ev.getR dX6_tryDensitiesOf_96 (Eq.refl 99) fg_X6_12 rfl rfl (rX6_0 hR) ?_
          refine Ev.getR dX6_tryDensitiesOf_99 (Eq.refl 102) fg_X6_62 (lyN0 (by assumption)) rfl (rN10 hR (by assumption)) ?_
          refine Ev.iload_n dX6_tryDensitiesOf_102 (Eq.refl 103) rfl ?_
          refine Ev.iload_n dX6_tryDensitiesOf_103 (Eq.refl 104) rfl ?_
          refine Ev.iastore dX6_tryDensitiesOf_104 (Eq.refl 105) (lyN5 (by assumption)) rfl (by omega) (by decide) (by first | with_reducible exact Int.toNat_natCast _ | exact Eq.refl _) ?_
          exact Ev.vret dX6_tryDensitiesOf_105 rfl (⟨rfl, hF.wI (Or.inr (Or.inl ⟨by omega, by omega⟩)), hQ.2, by rw [hQ.1, evg, vQ1_2, vQ1_own], by rw [hI_ni (by omega), hI_ni (by omega)]; exact hs⟩)
        · omega
      · have hQ := cQ1_VN (h := g) (n := 38) (k := k) (x := (t : Int) + 1) okg kS (by omega)
        have hF1 : Fr inT h (hI g (38 + 5) k ((t : Int) + 1)) := hF.wI (Or.inr (Or.inl ⟨by omega, by omega⟩))
        have ev1 : cV (hI g (38 + 5) k ((t : Int) + 1)) 38 = vQ1 v k ((t + 1 : Nat) : Int) := by rw [hQ.1, evg, vQ1_2]; rfl
        have r3 : (hI g (38 + 5) k ((t : Int) + 1)).1 17 3 = (tS v k st t).1 := by rw [hI_ni (by omega)]; exact g3
        have r2 : (hI g (38 + 5) k ((t : Int) + 1)).1 17 2 = (tS v k st t).2 := by rw [hI_ni (by omega)]; exact g2
        have ok1 := hQ.2
        obtain ⟨g1, hg1⟩ : ∃ g1, g1 = hI g (38 + 5) k ((t : Int) + 1) := ⟨_, rfl⟩
        rw [← hg1] at hF1 ev1 r3 r2 ok1
        have hvt : VOk (vQ1 v k ((t + 1 : Nat) : Int)) := VOk_Q1 hv (by omega)
        have mt := missV_b hvt (show aH v (hgV v) from ha)
        have ha1 : aH (cV g1 38) (hgV (cV g1 38)) := by rw [ev1]; exact ha
        have hR1 : ROk g1.2.2 := hF1.R (by assumption)
        refine Ev.iload_n dX6_tryDensitiesOf_12 (Eq.refl 13) rfl ?_
        refine Ev.iconst dX6_tryDensitiesOf_13 (Eq.refl 14) ?_
        refine Ev.icmp_gt (tgt := 95) dX6_tryDensitiesOf_14 (Eq.refl 17) (by decide) ⟨by omega, by omega⟩ ⟨by omega, by omega⟩ (fun c14 => ?_) (fun c14 => ?_)
        · omega
        · refine Ev.aload_n dX6_tryDensitiesOf_17 (Eq.refl 18) rfl ?_
          refine Ev.getR dX6_tryDensitiesOf_18 (Eq.refl 21) fg_X6_12 rfl rfl (rX6_0 hR) ?_
          refine Ev.getR dX6_tryDensitiesOf_21 (Eq.refl 24) fg_X6_62 (lyN0 (by assumption)) rfl (rN10 hR (by assumption)) ?_
          refine Ev.iload_n dX6_tryDensitiesOf_24 (Eq.refl 25) rfl ?_
          refine Ev.iload_n dX6_tryDensitiesOf_25 (Eq.refl 26) rfl ?_
          refine Ev.iastore dX6_tryDensitiesOf_26 (Eq.refl 27) (lyN5 (by assumption)) rfl (by omega) (by decide) (by first | with_reducible exact Int.toNat_natCast _ | exact Eq.refl _) ?_
          rw [← hg1]
          have hR := hR1
          refine Ev.iload_n dX6_tryDensitiesOf_27 (Eq.refl 28) rfl ?_
          refine Ev.iload_n dX6_tryDensitiesOf_28 (Eq.refl 29) rfl ?_
          refine Ev.icmp_eq (tgt := 89) dX6_tryDensitiesOf_29 (Eq.refl 32) (by decide) ⟨by omega, by omega⟩ ⟨by omega, by omega⟩ (fun c29 => ?_) (fun c29 => ?_)
          · have e : tS v k st (t + 1) = tS v k st t := tQ_own (by push_cast; exact c29) sb.2
            refine Ev.ii3 dX6_tryDensitiesOf_89 (Eq.refl 92) (by decide) rfl ?_
            refine Ev.goto' (pc' := 12) dX6_tryDensitiesOf_92 (by decide) ?_
            first | exact ih _ (by omega) (t + 1) _ _ rfl (by omega) hF1 ok1 ev1 (by rw [r3, r2]; exact e.symm) | exact ih _ (by omega) (t + 1) _ _ rfl (by omega) hF3 ok2 ev2 (by rw [s3, s2]; exact e.symm) | exact ih _ (by omega) (t + 1) _ _ rfl (by omega) ((hF3.wI (Or.inl rfl)).wI (Or.inl rfl)) (sameN.ok (g := g40) (fun a ha b => by rw [hI_ni (by omega), hI_ni (by omega)]) ok2) ((sameN.V (g := g40) (fun a ha b => by rw [hI_ni (by omega), hI_ni (by omega)])).trans ev2) (by rw [e, hI_eq, hI_nk (by omega), hI_eq]; rfl)
          · refine Ev.aload_n dX6_tryDensitiesOf_32 (Eq.refl 33) rfl ?_
            refine Ev.getR dX6_tryDensitiesOf_33 (Eq.refl 36) fg_X6_21 rfl rfl (rX6_1 hR) ?_
            refine Ev.aload_n dX6_tryDensitiesOf_36 (Eq.refl 37) rfl ?_
            refine Ev.getR dX6_tryDensitiesOf_37 (Eq.refl 40) fg_X6_12 rfl rfl (rX6_0 hR) ?_
            refine Ev.cv1I dX6_tryDensitiesOf_40 (Eq.refl 43) cw_X6_29 (Nat.le_of_ble_eq_true rfl) (by decide) (lyS0 (by assumption)) rfl rfl (Nat.le_of_ble_eq_true rfl) (c_find hR (by assumption) (by assumption) (by assumption)) (fun x40 g40 hp40 => ?_)
            rcases hp40 with ⟨z, _⟩ | ⟨_, rfl, hF2, so⟩
            · exact absurd ha1 z
            have hR := hF2.R hR
            have sm2 := hF2.same (n := 38) (fun i h1 h2 => by unfold inS; omega)
            have ok2 := sm2.ok ok1
            rw [← sm2.V] at so
            have hF3 : Fr inT h g40 := hF1.tr hF2 (fun _ z => z) (fun _ z => Or.inr (Or.inr z))
            have ev2 := sm2.V.trans ev1
            have s3 : g40.1 17 3 = (tS v k st t).1 := (hF2.1 17 (by unfold inS; omega) 3).trans r3
            have s2 : g40.1 17 2 = (tS v k st t).2 := (hF2.1 17 (by unfold inS; omega) 2).trans r2
            refine Ev.if_eq (tgt := 89) dX6_tryDensitiesOf_43 (Eq.refl 46) (by decide) ⟨by omega, by omega⟩ (fun c43 => ?_) (fun c43 => ?_)
            · omega
            · refine Ev.aload_n dX6_tryDensitiesOf_46 (Eq.refl 47) rfl ?_
              refine Ev.getR dX6_tryDensitiesOf_47 (Eq.refl 50) fg_X6_21 rfl rfl (rX6_1 hR) ?_
              refine Ev.aload_n dX6_tryDensitiesOf_50 (Eq.refl 51) rfl ?_
              refine Ev.getR dX6_tryDensitiesOf_51 (Eq.refl 54) fg_X6_12 rfl rfl (rX6_0 hR) ?_
              refine Ev.cv1E dX6_tryDensitiesOf_54 (Eq.refl 57) cw_X6_33 (Nat.le_of_ble_eq_true rfl) (by decide) (lyS0 (by assumption)) rfl rfl (Nat.le_of_ble_eq_true rfl) (c_missed hR (by assumption) (by assumption) (by assumption) (by assumption)) ?_
              rw [ev2]
              refine Ev.aload_n dX6_tryDensitiesOf_57 (Eq.refl 58) rfl ?_
              refine Ev.getI dX6_tryDensitiesOf_58 (Eq.refl 61) fg_X6_37 rfl rfl ?_
              rw [s3]
              refine Ev.icmp_ge (tgt := 89) dX6_tryDensitiesOf_61 (Eq.refl 64) (by decide) ⟨by omega, by omega⟩ ⟨by omega, by omega⟩ (fun c61 => ?_) (fun c61 => ?_)
              · have e : tS v k st (t + 1) = tS v k st t := if_neg (by omega)
                refine Ev.ii3 dX6_tryDensitiesOf_89 (Eq.refl 92) (by decide) rfl ?_
                refine Ev.goto' (pc' := 12) dX6_tryDensitiesOf_92 (by decide) ?_
                first | exact ih _ (by omega) (t + 1) _ _ rfl (by omega) hF1 ok1 ev1 (by rw [r3, r2]; exact e.symm) | exact ih _ (by omega) (t + 1) _ _ rfl (by omega) hF3 ok2 ev2 (by rw [s3, s2]; exact e.symm) | exact ih _ (by omega) (t + 1) _ _ rfl (by omega) ((hF3.wI (Or.inl rfl)).wI (Or.inl rfl)) (sameN.ok (g := g40) (fun a ha b => by rw [hI_ni (by omega), hI_ni (by omega)]) ok2) ((sameN.V (g := g40) (fun a ha b => by rw [hI_ni (by omega), hI_ni (by omega)])).trans ev2) (by rw [e, hI_eq, hI_nk (by omega), hI_eq]; rfl)
              · have e : tS v k st (t + 1) = (missV (vQ1 v k ((t + 1 : Nat) : Int)), 10 * (k : Int) + ((t + 1 : Nat) : Int)) := if_pos (by omega)
                refine Ev.aload_n dX6_tryDensitiesOf_64 (Eq.refl 65) rfl ?_
                refine Ev.aload_n dX6_tryDensitiesOf_65 (Eq.refl 66) rfl ?_
                refine Ev.getR dX6_tryDensitiesOf_66 (Eq.refl 69) fg_X6_21 rfl rfl (rX6_1 hR) ?_
                refine Ev.aload_n dX6_tryDensitiesOf_69 (Eq.refl 70) rfl ?_
                refine Ev.getR dX6_tryDensitiesOf_70 (Eq.refl 73) fg_X6_12 rfl rfl (rX6_0 hR) ?_
                refine Ev.cv1E dX6_tryDensitiesOf_73 (Eq.refl 76) cw_X6_33 (Nat.le_of_ble_eq_true rfl) (by decide) (lyS0 (by assumption)) rfl rfl (Nat.le_of_ble_eq_true rfl) (c_missed hR (by assumption) (by assumption) (by assumption) (by assumption)) ?_
                rw [ev2]
                refine Ev.putI dX6_tryDensitiesOf_76 (Eq.refl 79) fp_X6_37 rfl rfl (Or.inl rfl) ?_
                refine Ev.aload_n dX6_tryDensitiesOf_79 (Eq.refl 80) rfl ?_
                refine Ev.bipush dX6_tryDensitiesOf_80 (Eq.refl 82) (by decide) ?_
                refine Ev.iload_n dX6_tryDensitiesOf_82 (Eq.refl 83) rfl ?_
                refine Ev.imul dX6_tryDensitiesOf_83 (Eq.refl 84) ?_
                refine Ev.iload_n dX6_tryDensitiesOf_84 (Eq.refl 85) rfl ?_
                refine Ev.iadd dX6_tryDensitiesOf_85 (Eq.refl 86) ?_
                refine Ev.putI dX6_tryDensitiesOf_86 (Eq.refl 89) fp_X6_48 rfl rfl (Or.inl rfl) ?_
                refine Ev.ii3 dX6_tryDensitiesOf_89 (Eq.refl 92) (by decide) rfl ?_
                refine Ev.goto' (pc' := 12) dX6_tryDensitiesOf_92 (by decide) ?_
                first | exact ih _ (by omega) (t + 1) _ _ rfl (by omega) hF1 ok1 ev1 (by rw [r3, r2]; exact e.symm) | exact ih _ (by omega) (t + 1) _ _ rfl (by omega) hF3 ok2 ev2 (by rw [s3, s2]; exact e.symm) | exact ih _ (by omega) (t + 1) _ _ rfl (by omega) ((hF3.wI (Or.inl rfl)).wI (Or.inl rfl)) (sameN.ok (g := g40) (fun a ha b => by rw [hI_ni (by omega), hI_ni (by omega)]) ok2) ((sameN.V (g := g40) (fun a ha b => by rw [hI_ni (by omega), hI_ni (by omega)])).trans ev2) (by rw [e, hI_eq, hI_nk (by omega), hI_eq]; rfl)
  refine Ev.aload_n dX6_tryDensitiesOf_0 (Eq.refl 1) rfl ?_
  refine Ev.getR dX6_tryDensitiesOf_1 (Eq.refl 4) fg_X6_12 rfl rfl (rX6_0 hR) ?_
  refine Ev.getR dX6_tryDensitiesOf_4 (Eq.refl 7) fg_X6_62 (lyN0 (by assumption)) rfl (rN10 hR (by assumption)) ?_
  refine Ev.iload_n dX6_tryDensitiesOf_7 (Eq.refl 8) rfl ?_
  refine Ev.iaload dX6_tryDensitiesOf_8 (Eq.refl 9) (lyN5 (by assumption)) rfl (by omega) (by decide) (by first | with_reducible exact Int.toNat_natCast _ | exact Eq.refl _) ?_
  rw [eQ]
  refine Ev.is2 dX6_tryDensitiesOf_9 (Eq.refl 10) (by decide) rfl ?_
  refine Ev.iconst dX6_tryDensitiesOf_10 (Eq.refl 11) ?_
  refine Ev.is3 dX6_tryDensitiesOf_11 (Eq.refl 12) (by decide) rfl ?_
  exact LOOP _ 0 _ (vQ v k) rfl (by omega) Fr.rf ok (by rw [vQ1_own]; exact ev) hst
theorem c_seekBetter {h : Hp} {n : Nat} (hR : ROk h.2.2) (hn : isNet n) (hn2 : n ≠ 38) (ok : NOk h n) (ha : aH (cV h n) (hgV (cV h n))) : Ev mX6_seekBetter 5 0 (entL [.ref 17, .ref n] 3) [] h (PI (fun x h' => Fr inT h h' ∧ h'.1 17 3 = (tAl (cV h n) (vS (cV h n))).1 ∧ h'.1 17 2 = (tAl (cV h n) (vS (cV h n))).2 ∧ x = bi ((tAl (cV h n) (vS (cV h n))).2 ≠ -4))) := by
  show Ev mX6_seekBetter 5 0 [some (.ref 17), some (.ref n), none] [] h _
  have h38 : isNet 38 := by decide
  have h87 : isShp 87 := Or.inr rfl
  have hv : VOk (cV h n) := ok.2.2.2.2.2
  generalize hve : cV h n = v at *
  have hS14 := hv.2.1
  have ab : ∀ k, k ≤ vS v → -4 ≤ (tAl v k).2 ∧ (tAl v k).2 ≤ 1000 := by
    intro k
    induction k with
    | zero => intro _; show -4 ≤ (-4 : Int) ∧ (-4 : Int) ≤ 1000; omega
    | succ k ih =>
      intro hk
      have ih := ih (by omega)
      show -4 ≤ (if vH v k = true then tS v k (tAl v k) 5 else tAl v k).2 ∧ (if vH v k = true then tS v k (tAl v k) 5 else tAl v k).2 ≤ 1000
      have hq : ∀ q, q ≤ 5 → -4 ≤ (tS v k (tAl v k) q).2 ∧ (tS v k (tAl v k) q).2 ≤ 1000 := by
        intro q
        induction q with
        | zero => intro _; exact ih
        | succ q iq =>
          intro hq
          have := iq (by omega)
          show -4 ≤ (tQ v k (q + 1) (tS v k (tAl v k) q)).2 ∧ (tQ v k (q + 1) (tS v k (tAl v k) q)).2 ≤ 1000
          unfold tQ
          split
          · show -4 ≤ 10 * (k : Int) + ((q + 1 : Nat) : Int) ∧ 10 * (k : Int) + ((q + 1 : Nat) : Int) ≤ 1000; omega
          · exact this
      split
      · exact hq 5 (by omega)
      · exact ih
  have LOOP : ∀ (m k : Nat) (g : Hp), vS v - k = m → k ≤ vS v → Fr inT h g → NOk g 38 → cV g 38 = v → (g.1 17 3, g.1 17 2) = tAl v k → Ev mX6_seekBetter 5 47 [some (.ref 17), some (.ref n), some (iv (k : Int))] [] g (PI (fun x h' => Fr inT h h' ∧ h'.1 17 3 = (tAl v (vS v)).1 ∧ h'.1 17 2 = (tAl v (vS v)).2 ∧ x = bi ((tAl v (vS v)).2 ≠ -4))) := by
    intro m
    induction m using Nat.strongRecOn with
    | ind m ih =>
      intro k g hm hk hF okg evg hs
      have hR := hF.R hR
      have eSt := cV_S okg
      have hH := okg.2.2.2.1.1
      have hH2 := okg.f3
      have hhg := cV_H (s := k) okg
      rw [evg] at eSt hhg
      have tb_ := tAl_b hv ha k
      have hb : 0 ≤ g.1 17 3 ∧ g.1 17 3 ≤ missV v := by rw [show g.1 17 3 = (tAl v k).1 from by rw [← hs]]; exact tb_
      have g2 : g.1 17 2 = (tAl v k).2 := by rw [← hs]
      have g3 : g.1 17 3 = (tAl v k).1 := by rw [← hs]
      have abk := ab k hk
      refine Ev.iload_n dX6_seekBetter_47 (Eq.refl 48) rfl ?_
      refine Ev.aload_n dX6_seekBetter_48 (Eq.refl 49) rfl ?_
      refine Ev.getR dX6_seekBetter_49 (Eq.refl 52) fg_X6_12 rfl rfl (rX6_0 hR) ?_
      refine Ev.getI dX6_seekBetter_52 (Eq.refl 55) fg_X6_51 (lyN0 (by assumption)) rfl ?_
      rw [eSt]
      refine Ev.icmp_ge (tgt := 80) dX6_seekBetter_55 (Eq.refl 58) (by decide) ⟨by omega, by omega⟩ ⟨by omega, by omega⟩ (fun c55 => ?_) (fun c55 => ?_)
      · have e : k = vS v := by omega
        subst e
        refine Ev.aload_n dX6_seekBetter_80 (Eq.refl 81) rfl ?_
        refine Ev.getI dX6_seekBetter_81 (Eq.refl 84) fg_X6_48 rfl rfl ?_
        rw [g2]
        refine Ev.bipush dX6_seekBetter_84 (Eq.refl 86) (by decide) ?_
        refine Ev.icmp_eq (tgt := 93) dX6_seekBetter_86 (Eq.refl 89) (by decide) ⟨by omega, by omega⟩ ⟨by omega, by omega⟩ (fun c86 => ?_) (fun c86 => ?_)
        · refine Ev.iconst dX6_seekBetter_93 (Eq.refl 94) ?_
          exact Ev.zret dX6_seekBetter_94 rfl (by first | exact bi01 _ | exact Or.inl rfl | exact Or.inr rfl | omega) (⟨_, rfl, hF, g3, g2, by first | exact (bi_t c86).symm | exact (bi_f (fun z => z c86)).symm⟩)
        · refine Ev.iconst dX6_seekBetter_89 (Eq.refl 90) ?_
          refine Ev.goto' (pc' := 94) dX6_seekBetter_90 (by decide) ?_
          exact Ev.zret dX6_seekBetter_94 rfl (by first | exact bi01 _ | exact Or.inl rfl | exact Or.inr rfl | omega) (⟨_, rfl, hF, g3, g2, by first | exact (bi_t c86).symm | exact (bi_f (fun z => z c86)).symm⟩)
      · have hk2 : k < vS v := by omega
        refine Ev.aload_n dX6_seekBetter_58 (Eq.refl 59) rfl ?_
        refine Ev.getR dX6_seekBetter_59 (Eq.refl 62) fg_X6_12 rfl rfl (rX6_0 hR) ?_
        refine Ev.iload_n dX6_seekBetter_62 (Eq.refl 63) rfl ?_
        refine Ev.cv1E dX6_seekBetter_63 (Eq.refl 66) cw_X6_54 (Nat.le_of_ble_eq_true rfl) (by decide) (lyN0 (by assumption)) rfl rfl (Nat.le_of_ble_eq_true rfl) (c_hangs (by assumption) (by omega) (by omega)) ?_
        rw [Int.toNat_natCast]
        refine Ev.if_eqB (tgt := 74) dX6_seekBetter_66 (Eq.refl 69) (by decide) (fun c66 => ?_) (fun c66 => ?_)
        · have e : tAl v (k + 1) = tAl v k := if_neg (fun z => c66 (hhg.mpr z))
          refine Ev.ii2 dX6_seekBetter_74 (Eq.refl 77) (by decide) rfl ?_
          refine Ev.goto' (pc' := 47) dX6_seekBetter_77 (by decide) ?_
          first | exact ih _ (by omega) (k + 1) _ rfl (by omega) hF okg evg (by rw [e]; exact hs) | exact ih _ (by omega) (k + 1) _ rfl (by omega) (hF.tr hF2 (fun _ z => z) (fun _ z => z)) ok2 ev2 (by rw [e, hs2, hs])
        · have e : tAl v (k + 1) = tS v k (tAl v k) 5 := if_pos (hhg.mp c66)
          refine Ev.aload_n dX6_seekBetter_69 (Eq.refl 70) rfl ?_
          refine Ev.iload_n dX6_seekBetter_70 (Eq.refl 71) rfl ?_
          refine Ev.cv1V dX6_seekBetter_71 (Eq.refl 74) cw_X6_58 (Nat.le_of_ble_eq_true rfl) (by decide) rfl rfl rfl (Nat.le_of_ble_eq_true rfl) (c_tryDens hR (by assumption) (by assumption) (by assumption) (by assumption) (by assumption)) (fun g71 hp71 => ?_)
          obtain ⟨hF2, ok2, ev2, hs2⟩ := hp71
          refine Ev.ii2 dX6_seekBetter_74 (Eq.refl 77) (by decide) rfl ?_
          refine Ev.goto' (pc' := 47) dX6_seekBetter_77 (by decide) ?_
          first | exact ih _ (by omega) (k + 1) _ rfl (by omega) hF okg evg (by rw [e]; exact hs) | exact ih _ (by omega) (k + 1) _ rfl (by omega) (hF.tr hF2 (fun _ z => z) (fun _ z => z)) ok2 ev2 (by rw [e, hs2, hs])
  refine Ev.aload_n dX6_seekBetter_0 (Eq.refl 1) rfl ?_
  refine Ev.getR dX6_seekBetter_1 (Eq.refl 4) fg_X6_12 rfl rfl (rX6_0 hR) ?_
  refine Ev.aload_n dX6_seekBetter_4 (Eq.refl 5) rfl ?_
  refine Ev.cv1V dX6_seekBetter_5 (Eq.refl 8) cw_X6_25 (Nat.le_of_ble_eq_true rfl) (by decide) (lyN0 (by assumption)) rfl rfl (Nat.le_of_ble_eq_true rfl) (c_copyFrom hR h38 hn hn2) (fun g5 hp5 => ?_)
  subst hp5
  obtain ⟨cv1, cv2⟩ := cCpy_VN h38 hn hn2 ok
  have hF1 : Fr inT h (cCpy h 38 n) := Fr_cpy.up (fun i q => Or.inr (Or.inl q))
  have hR := hF1.R hR
  have ev1 := cv1.trans hve
  have ha1 : aH (cV (cCpy h 38 n) 38) (hgV (cV (cCpy h 38 n) 38)) := by rw [ev1]; exact ha
  refine Ev.aload_n dX6_seekBetter_8 (Eq.refl 9) rfl ?_
  refine Ev.getR dX6_seekBetter_9 (Eq.refl 12) fg_X6_21 rfl rfl (rX6_1 hR) ?_
  refine Ev.aload_n dX6_seekBetter_12 (Eq.refl 13) rfl ?_
  refine Ev.getR dX6_seekBetter_13 (Eq.refl 16) fg_X6_12 rfl rfl (rX6_0 hR) ?_
  refine Ev.cv1I dX6_seekBetter_16 (Eq.refl 19) cw_X6_29 (Nat.le_of_ble_eq_true rfl) (by decide) (lyS0 (by assumption)) rfl rfl (Nat.le_of_ble_eq_true rfl) (c_find hR (by assumption) (by assumption) (by assumption)) (fun x16 g16 hp16 => ?_)
  rcases hp16 with ⟨z, _⟩ | ⟨_, rfl, hF2, so⟩
  · exact absurd ha1 z
  have sm2 := hF2.same (n := 38) (fun i h1 h2 => by unfold inS; omega)
  have ok2 := sm2.ok cv2
  rw [ev1] at so
  have hF3 : Fr inT h g16 := hF1.tr hF2 (fun _ z => z) (fun _ z => Or.inr (Or.inr z))
  have ev2 := sm2.V.trans ev1
  refine Ev.if_ne (tgt := 24) dX6_seekBetter_19 (Eq.refl 22) (by decide) ⟨by omega, by omega⟩ (fun c19 => ?_) (fun c19 => ?_)
  · refine Ev.aload_n dX6_seekBetter_24 (Eq.refl 25) rfl ?_
    refine Ev.bipush dX6_seekBetter_25 (Eq.refl 27) (by decide) ?_
    refine Ev.putI dX6_seekBetter_27 (Eq.refl 30) fp_X6_48 rfl rfl (Or.inl rfl) ?_
    have hR : ROk (hI g16 17 2 (-4)).2.2 := hF3.R (by assumption)
    have ok3 : NOk (hI g16 17 2 (-4)) 38 := sameN.ok (g := g16) (fun a ha b => hI_ni (by omega)) ok2
    have ev3 : cV (hI g16 17 2 (-4)) 38 = v := (sameN.V (g := g16) (fun a ha b => hI_ni (by omega))).trans ev2
    have so3 : ShOk (hI g16 17 2 (-4)) 87 (cV (hI g16 17 2 (-4)) 38) := by rw [ev3]; exact ⟨so.1, so.2.1.fr (S := fun i => i = 17) hv (Fr.rf.wI rfl) (fun i h1 h2 => by unfold inS at h1; omega), fun j a hj h3 => by rw [hI_ni (by omega)]; exact so.2.2.1 j a hj h3, fun k hk => by rw [hI_ni (by omega)]; exact so.2.2.2 k hk⟩
    refine Ev.aload_n dX6_seekBetter_30 (Eq.refl 31) rfl ?_
    refine Ev.aload_n dX6_seekBetter_31 (Eq.refl 32) rfl ?_
    refine Ev.getR dX6_seekBetter_32 (Eq.refl 35) fg_X6_21 rfl rfl (rX6_1 hR) ?_
    refine Ev.aload_n dX6_seekBetter_35 (Eq.refl 36) rfl ?_
    refine Ev.getR dX6_seekBetter_36 (Eq.refl 39) fg_X6_12 rfl rfl (rX6_0 hR) ?_
    refine Ev.cv1E dX6_seekBetter_39 (Eq.refl 42) cw_X6_33 (Nat.le_of_ble_eq_true rfl) (by decide) (lyS0 (by assumption)) rfl rfl (Nat.le_of_ble_eq_true rfl) (c_missed hR (by assumption) (by assumption) (by assumption) (by assumption)) ?_
    rw [ev3]
    refine Ev.putI dX6_seekBetter_42 (Eq.refl 45) fp_X6_37 rfl rfl (Or.inl rfl) ?_
    refine Ev.iconst dX6_seekBetter_45 (Eq.refl 46) ?_
    refine Ev.is2 dX6_seekBetter_46 (Eq.refl 47) (by decide) rfl ?_
    exact LOOP _ 0 _ rfl (by omega) ((hF3.wI (Or.inl rfl)).wI (Or.inl rfl)) (sameN.ok (g := g16) (fun a ha b => by rw [hI_ni (by omega), hI_ni (by omega)]) ok2) ((sameN.V (g := g16) (fun a ha b => by rw [hI_ni (by omega), hI_ni (by omega)])).trans ev2) (by rw [hI_eq, hI_nk (by omega), hI_eq]; rfl)
  · omega
