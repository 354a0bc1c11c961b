/-! Shape: rows set up. -/
def inS (s i : Nat) : Prop := s ≤ i ∧ i ≤ s + 9
def cm (N c : Nat) : Nat := if c < N then c else c - N + 5
def RW (h : Hp) (s N : Nat) (T : Nat → Nat → Int) : Prop := ∀ r c, r < N → c < N + 3 → h.2.1 (s + 5 + r) c = T r (cm N c)
/-- longs of the shape's rows alone changed -/
def inW (s i : Nat) : Prop := s + 5 ≤ i ∧ i ≤ s + 9
def Fl (s : Nat) (h h' : Hp) : Prop := h'.1 = h.1 ∧ h'.2.2 = h.2.2 ∧ ∀ i, ¬ inW s i → ∀ j, h'.2.1 i j = h.2.1 i j
theorem Fl.rf {s : Nat} {h : Hp} : Fl s h h := ⟨rfl, rfl, fun _ _ _ => rfl⟩
theorem Fl.tr {s : Nat} {h h' h'' : Hp} (a : Fl s h h') (b : Fl s h' h'') : Fl s h h'' := ⟨b.1.trans a.1, b.2.1.trans a.2.1, fun i q j => (b.2.2 i q j).trans (a.2.2 i q j)⟩
theorem Fl.w {s i k : Nat} {h g : Hp} {x : Int} (a : Fl s h g) (hi : inW s i) : Fl s h (hL g i k x) := ⟨a.1, a.2.1, fun i' q j => by rw [hL_ni (show i' ≠ i from fun e => q (by rw [e]; exact hi))]; exact a.2.2 i' q j⟩
def NF (h : Hp) (s : Nat) (v : Nv) : Prop := h.1 s 4 = (vN v : Int) ∧ ∀ j, j < vJ v → vF v j = true → h.1 (s + 1) j = (rwo v j : Int)
theorem cV_1 {h g : Hp} {n : Nat} (e : g.1 = h.1) : cV g n = cV h n := by unfold cV; rw [e]
theorem NOk_1 {h g : Hp} {n : Nat} (e : g.1 = h.1) (k : NOk h n) : NOk g n := by
  have q := cV_1 (n := n) e
  unfold NOk at *
  rw [e, q]; exact k
theorem NF_1 {h g : Hp} {s : Nat} {v : Nv} (e : g.1 = h.1) (k : NF h s v) : NF g s v := by unfold NF at *; rw [e]; exact k
theorem Fr.same {S : Nat → Prop} {h g : Hp} {n : Nat} (hF : Fr S h g) (hd : ∀ i, n ≤ i → i ≤ n + 6 → ¬ S i) : sameN g h n := fun i hi j => hF.1 (n + i) (hd _ (by omega) (by omega)) j
theorem Fr.wI {S : Nat → Prop} {h g : Hp} {i k : Nat} {x : Int} (hF : Fr S h g) (hi : S i) : Fr S h (hI g i k x) := ⟨fun i' q j => by rw [hI_ni (show i' ≠ i from fun e => q (by rw [e]; exact hi))]; exact hF.1 i' q j, hF.2.1, hF.2.2⟩
theorem Fr.R {S : Nat → Prop} {h g : Hp} (hF : Fr S h g) (hR : ROk h.2.2) : ROk g.2.2 := by rw [hF.2.2]; exact hR
theorem c_numFree {h : Hp} {n s : Nat} (hR : ROk h.2.2) (hn : isNet n) (hs : isShp s) (ok : NOk h n) : Ev mX4_numberFreeJoints 1 0 (entL [.ref s, .ref n] 3) [] h (PV (fun h' => Fr (fun i => i = s ∨ i = s + 1) h h' ∧ NF h' s (cV h n))) := by
  show Ev mX4_numberFreeJoints 1 0 [some (.ref s), some (.ref n), none] [] h _
  have hv : VOk (cV h n) := ok.2.2.2.2.2
  have hF1 := ok.2.1.1
  have hF2 := ok.f1
  have hJ := hv.1
  have eJ := cV_J ok
  have h5 := vN5 hv
  have hfr := fun j => cV_F (j := j) ok
  generalize hve : cV h n = v at *
  have LOOP : ∀ (m k : Nat) (g : Hp), vJ v - k = m → k ≤ vJ v → Fr (fun i => i = s ∨ i = s + 1) h g → g.1 s 4 = (rwo v k : Int) → (∀ j, j < k → vF v j = true → g.1 (s + 1) j = (rwo v j : Int)) → Ev mX4_numberFreeJoints 1 7 [some (.ref s), some (.ref n), some (iv (k : Int))] [] g (PV (fun h' => Fr (fun i => i = s ∨ i = s + 1) h h' ∧ NF h' s v)) := by
    intro m
    induction m using Nat.strongRecOn with
    | ind m ih =>
      intro k g hm hk hF h4 hr
      have hR := hF.R hR
      have sm := hF.same (n := n) (fun i h1 h2 => by omega)
      have g0 : g.1 n 0 = (vJ v : Int) := (sm 0 (by omega) 0).trans eJ
      have g1 : g.1 n 1 = h.1 n 1 := sm 0 (by omega) 1
      have hc : rwo v k ≤ vN v := cnt_up (vF v) hk
      have ns : s ≠ s + 1 := by omega
      refine Ev.iload_n dX4_numberFreeJoints_7 (Eq.refl 8) rfl ?_
      refine Ev.aload_n dX4_numberFreeJoints_8 (Eq.refl 9) rfl ?_
      refine Ev.getI dX4_numberFreeJoints_9 (Eq.refl 12) fg_X4_56 (lyN0 (by assumption)) rfl ?_
      rw [g0]
      refine Ev.icmp_ge (tgt := 57) dX4_numberFreeJoints_12 (Eq.refl 15) (by decide) ⟨by omega, by omega⟩ ⟨by omega, by omega⟩ (fun c12 => ?_) (fun c12 => ?_)
      · have e : k = vJ v := by omega
        subst e
        exact Ev.vret dX4_numberFreeJoints_57 rfl (⟨rfl, hF, h4, hr⟩)
      · refine Ev.aload_n dX4_numberFreeJoints_15 (Eq.refl 16) rfl ?_
        refine Ev.iload_n dX4_numberFreeJoints_16 (Eq.refl 17) rfl ?_
        refine Ev.cv1E dX4_numberFreeJoints_17 (Eq.refl 20) cw_X4_59 (Nat.le_of_ble_eq_true rfl) (by decide) (lyN0 (by assumption)) rfl rfl (Nat.le_of_ble_eq_true rfl) (c_isFree (by assumption) (by omega) (by omega)) ?_
        rw [g1, Int.toNat_natCast]
        refine Ev.if_eqB (tgt := 51) dX4_numberFreeJoints_20 (Eq.refl 23) (by decide) (fun c20 => ?_) (fun c20 => ?_)
        · have hnf : vF v k = false := by cases q : vF v k with | false => rfl | true => exact absurd ((hfr k).mpr q) c20
          refine Ev.ii2 dX4_numberFreeJoints_51 (Eq.refl 54) (by decide) rfl ?_
          refine Ev.goto' (pc' := 7) dX4_numberFreeJoints_54 (by decide) ?_
          first | exact ih _ (by omega) (k + 1) _ rfl (by omega) hF (h4.trans (by rw [show rwo v (k + 1) = rwo v k from cnt_n hnf])) (fun j hj hfj => hr j (by have : j ≠ k := (fun e => by rw [e, hnf] at hfj; cases hfj); omega) hfj) | exact ih _ (by omega) (k + 1) _ rfl (by omega) ((hF.wI (Or.inr rfl)).wI (Or.inl rfl)) (by rw [hI_eq, show rwo v (k + 1) = rwo v k + 1 from cnt_s hf]; push_cast; rfl) (fun j hj hfj => by rw [hI_ni (by omega)]; exact (if e : j = k then by rw [e, hI_eq] else by rw [hI_nk e]; exact hr j (by omega) hfj))
        · have hf := (hfr k).mp c20
          have hlt : rwo v k < vN v := cnt_slt hf (show k < vJ v by omega)
          refine Ev.aload_n dX4_numberFreeJoints_23 (Eq.refl 24) rfl ?_
          refine Ev.getI dX4_numberFreeJoints_24 (Eq.refl 27) fg_X4_52 (lyS0 (by assumption)) rfl ?_
          rw [h4]
          refine Ev.iconst dX4_numberFreeJoints_27 (Eq.refl 28) ?_
          refine Ev.icmp_ge (tgt := 51) dX4_numberFreeJoints_28 (Eq.refl 31) (by decide) ⟨by omega, by omega⟩ ⟨by omega, by omega⟩ (fun c28 => ?_) (fun c28 => ?_)
          · omega
          · refine Ev.aload_n dX4_numberFreeJoints_31 (Eq.refl 32) rfl ?_
            refine Ev.getR dX4_numberFreeJoints_32 (Eq.refl 35) fg_X4_9 (lyS0 (by assumption)) rfl (rS0 hR (by assumption)) ?_
            refine Ev.iload_n dX4_numberFreeJoints_35 (Eq.refl 36) rfl ?_
            refine Ev.aload_n dX4_numberFreeJoints_36 (Eq.refl 37) rfl ?_
            refine Ev.getI dX4_numberFreeJoints_37 (Eq.refl 40) fg_X4_52 (lyS0 (by assumption)) rfl ?_
            rw [h4]
            refine Ev.iastore dX4_numberFreeJoints_40 (Eq.refl 41) (lyS1 (by assumption)) rfl (by omega) (by decide) (by first | with_reducible exact Int.toNat_natCast _ | exact Eq.refl _) ?_
            refine Ev.aload_n dX4_numberFreeJoints_41 (Eq.refl 42) rfl ?_
            refine Ev.dupR dX4_numberFreeJoints_42 (Eq.refl 43) ?_
            refine Ev.getI dX4_numberFreeJoints_43 (Eq.refl 46) fg_X4_52 (lyS0 (by assumption)) rfl ?_
            rw [hI_ni ns, h4]
            refine Ev.iconst dX4_numberFreeJoints_46 (Eq.refl 47) ?_
            refine Ev.iadd dX4_numberFreeJoints_47 (Eq.refl 48) ?_
            refine Ev.putI dX4_numberFreeJoints_48 (Eq.refl 51) fp_X4_52 (lyS0 (by assumption)) rfl (Or.inl rfl) ?_
            refine Ev.ii2 dX4_numberFreeJoints_51 (Eq.refl 54) (by decide) rfl ?_
            refine Ev.goto' (pc' := 7) dX4_numberFreeJoints_54 (by decide) ?_
            first | exact ih _ (by omega) (k + 1) _ rfl (by omega) hF (h4.trans (by rw [show rwo v (k + 1) = rwo v k from cnt_n hnf])) (fun j hj hfj => hr j (by have : j ≠ k := (fun e => by rw [e, hnf] at hfj; cases hfj); omega) hfj) | exact ih _ (by omega) (k + 1) _ rfl (by omega) ((hF.wI (Or.inr rfl)).wI (Or.inl rfl)) (by rw [hI_eq, show rwo v (k + 1) = rwo v k + 1 from cnt_s hf]; push_cast; rfl) (fun j hj hfj => by rw [hI_ni (by omega)]; exact (if e : j = k then by rw [e, hI_eq] else by rw [hI_nk e]; exact hr j (by omega) hfj))
  refine Ev.aload_n dX4_numberFreeJoints_0 (Eq.refl 1) rfl ?_
  refine Ev.iconst dX4_numberFreeJoints_1 (Eq.refl 2) ?_
  refine Ev.putI dX4_numberFreeJoints_2 (Eq.refl 5) fp_X4_52 (lyS0 (by assumption)) rfl (Or.inl rfl) ?_
  refine Ev.iconst dX4_numberFreeJoints_5 (Eq.refl 6) ?_
  refine Ev.is2 dX4_numberFreeJoints_6 (Eq.refl 7) (by decide) rfl ?_
  exact LOOP _ 0 _ rfl (Nat.zero_le _) (Fr.rf.wI (Or.inl rfl)) (by rw [hI_eq]; rfl) (fun j hj => by omega)
