/-! The model: items into the draft. -/
def Mz (h h' : Hp) : Prop := h'.2 = h.2 ∧ ∀ i j, ¬ (i = 0 ∧ (j = 8 ∨ j = 9)) → i ≠ 6 → i ≠ 3 → h'.1 i j = h.1 i j
noncomputable def resI (t : Nat → Int) (L : Nat) (c : Int) (p : Nat) (v : Nv) : Option (Nat × Nv) := match pNs t L (nOf c) p with
  | none => none
  | some r => match item c (fun i => r.1.getD i 0) v with
    | none => none
    | some w => some (r.2, w)
def tkP (t : Nat → Int) (L : Nat) (c : Int) (p : Nat) (v : Nv) (h h' : Hp) : Prop := Mz h h' ∧ match resI t L c p v with
  | none => h'.1 0 9 = 0
  | some q => h'.1 0 9 = 1 ∧ h'.1 0 8 = (q.1 : Int) ∧ p ≤ q.1 ∧ q.1 ≤ L ∧ GOk (h'.1 3) ∧ gV (h'.1 3) = q.2
theorem tk_n {t : Nat → Int} {L : Nat} {c : Int} {p : Nat} {v : Nv} {h h' : Hp} (z : Mz h h') (e : resI t L c p v = none) (h9 : h'.1 0 9 = 0) : tkP t L c p v h h' := ⟨z, by rw [e]; exact h9⟩
theorem tk_s {t : Nat → Int} {L : Nat} {c : Int} {p p' : Nat} {v w : Nv} {h h' : Hp} (z : Mz h h') (e : resI t L c p v = some (p', w)) (h9 : h'.1 0 9 = 1) (h8 : h'.1 0 8 = (p' : Int)) (hp : p ≤ p' ∧ p' ≤ L) (hv : gV (h'.1 3) = w ∧ GOk (h'.1 3)) : tkP t L c p v h h' := ⟨z, by rw [e]; exact ⟨h9, h8, hp.1, hp.2, hv.2, hv.1⟩⟩
theorem My.z {h h' : Hp} {p' : Nat} {b' : Int} (y : My h h' p' b') : Mz h h' := ⟨y.1, fun i j a b _ => y.2.1 i j a b⟩
theorem Mz.w {h g : Hp} {i k : Nat} {x : Int} (q : Mz h g) (hi : (i = 0 ∧ (k = 8 ∨ k = 9)) ∨ i = 6 ∨ i = 3) : Mz h (hI g i k x) := ⟨q.1, fun a b z1 z2 z3 => by rw [hI_rd, if_neg (by omega)]; exact q.2 a b z1 z2 z3⟩
theorem gRol {f g : Nat → Int} {x y : Int} (k : GOk f) (hx : okRol x y) (h0 : 0 ≤ y) (e2 : g 2 = x) (e3 : g 3 = y) (e : ∀ i, i ≠ 2 → i ≠ 3 → g i = f i) : gV g = vRol (gV f) x y ∧ GOk g := by
  have a0 := e 0 (by omega) (by omega)
  have a1 := e 1 (by omega) (by omega)
  have ej : ∀ j, 4 ≤ j → g j = f j := fun j hj => e j (by omega) (by omega)
  have hV : gV g = vRol (gV f) x y := by
    refine nv_ext ?_ ?_ (fun j => ?_) (fun j a => ?_) (fun j => ?_) (fun s => ?_) (fun s => ?_) (fun s => ?_) (fun s => ?_) (fun s => ?_) e2 e3
    · show (g 0).toNat = (f 0).toNat; rw [a0]
    · show (g 1).toNat = (f 1).toNat; rw [a1]
    · show decide ((j : Int) < g 0 ∧ g (4 + j) = 1) = decide ((j : Int) < f 0 ∧ f (4 + j) = 1); rw [a0, ej _ (by omega)]
    · show (if (j : Int) < g 0 ∧ ¬ g (4 + j) = 1 ∧ a < 3 then g (14 + 3 * j + a) else 0) = if (j : Int) < f 0 ∧ ¬ f (4 + j) = 1 ∧ a < 3 then f (14 + 3 * j + a) else 0
      rw [a0, ej _ (by omega), ej (14 + 3 * j + a) (by omega)]
    · show (if (j : Int) < g 0 then g (44 + j) else 0) = if (j : Int) < f 0 then f (44 + j) else 0; rw [a0, ej _ (by omega)]
    · show (if (s : Int) < g 1 then (g (54 + 5 * s)).toNat else 0) = if (s : Int) < f 1 then (f (54 + 5 * s)).toNat else 0; rw [a1, ej _ (by omega)]
    · show (if (s : Int) < g 1 then (g (54 + 5 * s + 1)).toNat else 0) = if (s : Int) < f 1 then (f (54 + 5 * s + 1)).toNat else 0; rw [a1, ej _ (by omega)]
    · show (if (s : Int) < g 1 then g (54 + 5 * s + 2) else 0) = if (s : Int) < f 1 then f (54 + 5 * s + 2) else 0; rw [a1, ej _ (by omega)]
    · show (if (s : Int) < g 1 then g (54 + 5 * s + 3) else 0) = if (s : Int) < f 1 then f (54 + 5 * s + 3) else 0; rw [a1, ej _ (by omega)]
    · show decide ((s : Int) < g 1 ∧ g (54 + 5 * s + 4) = 0) = decide ((s : Int) < f 1 ∧ f (54 + 5 * s + 4) = 0); rw [a1, ej _ (by omega)]
  refine ⟨hV, ?_⟩
  obtain ⟨k1, k2, k3, k4, k5⟩ := k
  refine ⟨by rw [a0]; exact k1, by rw [a1]; exact k2, fun j hj => by rw [ej _ (by omega)]; rw [a0] at hj; exact k3 j hj, fun s hs => by rw [ej _ (by omega), ej (54 + 5 * s + 1) (by omega), ej (54 + 5 * s + 4) (by omega), a0]; rw [a1] at hs; exact k4 s hs, ?_⟩
  rw [hV]
  obtain ⟨v1, v2, v3, v4, v5, v6, v7, v8, v9, v10, v11⟩ := k5
  exact ⟨v1, v2, v3, v4, v5, v6, v7, hx.1.1, hx.1.2, h0, hx.2⟩
theorem m_takesRolls {h : Hp} {t : Nat → Int} {L p : Nat} (hR : MOk h.2.2) (hT : MT h t L) (h8 : h.1 0 8 = (p : Int)) (h9 : h.1 0 9 = 1) (hp : p ≤ L) (ok : GOk (h.1 3)) : Ev mX8_takesRolls 4 0 (entL [.ref 0] 1) [] h (PV (fun h' => tkP t L 114 p (gV (h.1 3)) h h')) := by
  show Ev mX8_takesRolls 4 0 [some (.ref 0)] [] h _
  have hb : (0 : Int) ≤ 1 ∧ (1 : Int) ≤ 1 := by omega
  have TN : ∀ g, MOk g.2.2 → Mz h g → g.1 0 9 = 0 → resI t L 114 p (gV (h.1 3)) = none → Ev mX8_takesRolls 4 5 [some (.ref 0)] [] g (PV (fun h' => tkP t L 114 p (gV (h.1 3)) h h')) := by
    intro g hR mz g9 e
    refine Ev.aload_n dX8_takesRolls_5 (Eq.refl 6) rfl ?_
    refine Ev.aload_n dX8_takesRolls_6 (Eq.refl 7) rfl ?_
    refine Ev.getI dX8_takesRolls_7 (Eq.refl 10) fg_X8_83 rfl rfl ?_
    rw [g9]
    refine Ev.if_eq (tgt := 37) dX8_takesRolls_10 (Eq.refl 13) (by decide) ⟨by omega, by omega⟩ (fun c10 => ?_) (fun c10 => ?_)
    · refine Ev.iconst dX8_takesRolls_37 (Eq.refl 38) ?_
      refine Ev.putI dX8_takesRolls_38 (Eq.refl 41) fp_X8_83 rfl rfl (Or.inr ⟨rfl, by omega⟩) ?_
      refine Ev.aload_n dX8_takesRolls_41 (Eq.refl 42) rfl ?_
      refine Ev.getI dX8_takesRolls_42 (Eq.refl 45) fg_X8_83 rfl rfl ?_
      rw [hI_eq]
      refine Ev.if_eq (tgt := 72) dX8_takesRolls_45 (Eq.refl 48) (by decide) ⟨by omega, by omega⟩ (fun c45 => ?_) (fun c45 => ?_)
      · exact Ev.vret dX8_takesRolls_72 rfl ((by first | exact ⟨rfl, tk_n (mz.w (by omega)) e hI_eq⟩ | omega))
      · refine Ev.aload_n dX8_takesRolls_48 (Eq.refl 49) rfl ?_
        refine Ev.getR dX8_takesRolls_49 (Eq.refl 52) fg_X8_17 rfl rfl (rX8_4 hR) ?_
        refine Ev.iconst dX8_takesRolls_52 (Eq.refl 53) ?_
        refine Ev.aload_n dX8_takesRolls_53 (Eq.refl 54) rfl ?_
        refine Ev.getR dX8_takesRolls_54 (Eq.refl 57) fg_X8_26 rfl rfl (rX8_10 hR) ?_
        refine Ev.iconst dX8_takesRolls_57 (Eq.refl 58) ?_
        refine Ev.iaload dX8_takesRolls_58 (Eq.refl 59) rfl rfl (by omega) (by decide) (show (0 : Int).toNat = 0 from rfl) ?_
        refine Ev.iastore dX8_takesRolls_59 (Eq.refl 60) rfl rfl (by omega) (by decide) (show (2 : Int).toNat = 2 from rfl) ?_
        refine Ev.aload_n dX8_takesRolls_60 (Eq.refl 61) rfl ?_
        refine Ev.getR dX8_takesRolls_61 (Eq.refl 64) fg_X8_17 rfl rfl (rX8_4 hR) ?_
        refine Ev.iconst dX8_takesRolls_64 (Eq.refl 65) ?_
        refine Ev.aload_n dX8_takesRolls_65 (Eq.refl 66) rfl ?_
        refine Ev.getR dX8_takesRolls_66 (Eq.refl 69) fg_X8_26 rfl rfl (rX8_10 hR) ?_
        refine Ev.iconst dX8_takesRolls_69 (Eq.refl 70) ?_
        refine Ev.iaload dX8_takesRolls_70 (Eq.refl 71) rfl rfl (by omega) (by decide) (show (1 : Int).toNat = 1 from rfl) ?_
        refine Ev.iastore dX8_takesRolls_71 (Eq.refl 72) rfl rfl (by omega) (by decide) (show (3 : Int).toNat = 3 from rfl) ?_
        exact Ev.vret dX8_takesRolls_72 rfl ((by first | exact ⟨rfl, tk_n (mz.w (by omega)) e hI_eq⟩ | omega))
    · omega
  have TS : ∀ (g : Hp) (p' : Nat) (r : List Int × Nat), MOk g.2.2 → Mz h g → (∀ j, g.1 3 j = h.1 3 j) → g.1 0 9 = 1 → g.1 0 8 = (p' : Int) → pNs t L 2 p = some r → p' = r.2 → p ≤ p' ∧ p' ≤ L → (∀ i, i < 2 → g.1 6 i = r.1.getD i 0 ∧ 0 ≤ r.1.getD i 0 ∧ r.1.getD i 0 ≤ 99) → Ev mX8_takesRolls 4 5 [some (.ref 0)] [] g (PV (fun h' => tkP t L 114 p (gV (h.1 3)) h h')) := by
    intro g p' r hR mz g3 g9 g8 hr ep hpp hn
    subst ep
    have n0 := hn 0 (by omega)
    have n1 := hn 1 (by omega)
    have ei : item 114 (fun i => r.1.getD i 0) (gV (h.1 3)) = cif (okRol (r.1.getD 0 0) (r.1.getD 1 0)) (some (vRol (gV (h.1 3)) (r.1.getD 0 0) (r.1.getD 1 0))) none := rfl
    have er : resI t L 114 p (gV (h.1 3)) = match item 114 (fun i => r.1.getD i 0) (gV (h.1 3)) with | none => none | some w => some (r.2, w) := by
      show (match pNs t L 2 p with | none => none | some r => match item 114 (fun i => r.1.getD i 0) (gV (h.1 3)) with | none => none | some w => some (r.2, w)) = _
      rw [hr]
    have rn : ¬ okRol (r.1.getD 0 0) (r.1.getD 1 0) → resI t L 114 p (gV (h.1 3)) = none := fun z => by rw [er, ei, cif_f z]
    have rs : okRol (r.1.getD 0 0) (r.1.getD 1 0) → resI t L 114 p (gV (h.1 3)) = some (r.2, vRol (gV (h.1 3)) (r.1.getD 0 0) (r.1.getD 1 0)) := fun z => by rw [er, ei, cif_t z]
    refine Ev.aload_n dX8_takesRolls_5 (Eq.refl 6) rfl ?_
    refine Ev.aload_n dX8_takesRolls_6 (Eq.refl 7) rfl ?_
    refine Ev.getI dX8_takesRolls_7 (Eq.refl 10) fg_X8_83 rfl rfl ?_
    rw [g9]
    refine Ev.if_eq (tgt := 37) dX8_takesRolls_10 (Eq.refl 13) (by decide) ⟨by omega, by omega⟩ (fun c10 => ?_) (fun c10 => ?_)
    · omega
    · refine Ev.aload_n dX8_takesRolls_13 (Eq.refl 14) rfl ?_
      refine Ev.getR dX8_takesRolls_14 (Eq.refl 17) fg_X8_26 rfl rfl (rX8_10 hR) ?_
      refine Ev.iconst dX8_takesRolls_17 (Eq.refl 18) ?_
      refine Ev.iaload dX8_takesRolls_18 (Eq.refl 19) rfl rfl (by omega) (by decide) (show (0 : Int).toNat = 0 from rfl) ?_
      rw [n0.1]
      refine Ev.if_le (tgt := 37) dX8_takesRolls_19 (Eq.refl 22) (by decide) ⟨by omega, by omega⟩ (fun c19 => ?_) (fun c19 => ?_)
      · have e := rn (fun z => by have := z.1.1; omega)
        refine Ev.iconst dX8_takesRolls_37 (Eq.refl 38) ?_
        refine Ev.putI dX8_takesRolls_38 (Eq.refl 41) fp_X8_83 rfl rfl (Or.inr ⟨rfl, by omega⟩) ?_
        refine Ev.aload_n dX8_takesRolls_41 (Eq.refl 42) rfl ?_
        refine Ev.getI dX8_takesRolls_42 (Eq.refl 45) fg_X8_83 rfl rfl ?_
        rw [hI_eq]
        refine Ev.if_eq (tgt := 72) dX8_takesRolls_45 (Eq.refl 48) (by decide) ⟨by omega, by omega⟩ (fun c45 => ?_) (fun c45 => ?_)
        · exact Ev.vret dX8_takesRolls_72 rfl ((by first | omega | exact ⟨rfl, tk_n (mz.w (by omega)) e hI_eq⟩ | exact ⟨rfl, tk_s (((mz.w (by omega)).w (by omega)).w (by omega)) e (by rw [hI_ni (by omega), hI_ni (by omega), hI_eq]) (by rw [hI_ni (by omega), hI_ni (by omega), hI_nk (by omega)]; exact g8) hpp (gRol ok okr n1.2.1 (by rw [hI_nk (by omega), hI_eq]) hI_eq (fun i a b => by rw [hI_nk b, hI_nk a, hI_ni (by omega)]; exact g3 i))⟩))
        · refine Ev.aload_n dX8_takesRolls_48 (Eq.refl 49) rfl ?_
          refine Ev.getR dX8_takesRolls_49 (Eq.refl 52) fg_X8_17 rfl rfl (rX8_4 hR) ?_
          refine Ev.iconst dX8_takesRolls_52 (Eq.refl 53) ?_
          refine Ev.aload_n dX8_takesRolls_53 (Eq.refl 54) rfl ?_
          refine Ev.getR dX8_takesRolls_54 (Eq.refl 57) fg_X8_26 rfl rfl (rX8_10 hR) ?_
          refine Ev.iconst dX8_takesRolls_57 (Eq.refl 58) ?_
          refine Ev.iaload dX8_takesRolls_58 (Eq.refl 59) rfl rfl (by omega) (by decide) (show (0 : Int).toNat = 0 from rfl) ?_
          rw [hI_ni (by omega), n0.1]
          refine Ev.iastore dX8_takesRolls_59 (Eq.refl 60) rfl rfl (by omega) (by decide) (show (2 : Int).toNat = 2 from rfl) ?_
          refine Ev.aload_n dX8_takesRolls_60 (Eq.refl 61) rfl ?_
          refine Ev.getR dX8_takesRolls_61 (Eq.refl 64) fg_X8_17 rfl rfl (rX8_4 hR) ?_
          refine Ev.iconst dX8_takesRolls_64 (Eq.refl 65) ?_
          refine Ev.aload_n dX8_takesRolls_65 (Eq.refl 66) rfl ?_
          refine Ev.getR dX8_takesRolls_66 (Eq.refl 69) fg_X8_26 rfl rfl (rX8_10 hR) ?_
          refine Ev.iconst dX8_takesRolls_69 (Eq.refl 70) ?_
          refine Ev.iaload dX8_takesRolls_70 (Eq.refl 71) rfl rfl (by omega) (by decide) (show (1 : Int).toNat = 1 from rfl) ?_
          rw [hI_ni (by omega), hI_ni (by omega), n1.1]
          refine Ev.iastore dX8_takesRolls_71 (Eq.refl 72) rfl rfl (by omega) (by decide) (show (3 : Int).toNat = 3 from rfl) ?_
          exact Ev.vret dX8_takesRolls_72 rfl ((by first | omega | exact ⟨rfl, tk_n (mz.w (by omega)) e hI_eq⟩ | exact ⟨rfl, tk_s (((mz.w (by omega)).w (by omega)).w (by omega)) e (by rw [hI_ni (by omega), hI_ni (by omega), hI_eq]) (by rw [hI_ni (by omega), hI_ni (by omega), hI_nk (by omega)]; exact g8) hpp (gRol ok okr n1.2.1 (by rw [hI_nk (by omega), hI_eq]) hI_eq (fun i a b => by rw [hI_nk b, hI_nk a, hI_ni (by omega)]; exact g3 i))⟩))
      · refine Ev.aload_n dX8_takesRolls_22 (Eq.refl 23) rfl ?_
        refine Ev.getR dX8_takesRolls_23 (Eq.refl 26) fg_X8_26 rfl rfl (rX8_10 hR) ?_
        refine Ev.iconst dX8_takesRolls_26 (Eq.refl 27) ?_
        refine Ev.iaload dX8_takesRolls_27 (Eq.refl 28) rfl rfl (by omega) (by decide) (show (1 : Int).toNat = 1 from rfl) ?_
        rw [n1.1]
        refine Ev.bipush dX8_takesRolls_28 (Eq.refl 30) (by decide) ?_
        refine Ev.icmp_gt (tgt := 37) dX8_takesRolls_30 (Eq.refl 33) (by decide) ⟨by omega, by omega⟩ ⟨by omega, by omega⟩ (fun c30 => ?_) (fun c30 => ?_)
        · have e := rn (fun z => by have := z.2; omega)
          refine Ev.iconst dX8_takesRolls_37 (Eq.refl 38) ?_
          refine Ev.putI dX8_takesRolls_38 (Eq.refl 41) fp_X8_83 rfl rfl (Or.inr ⟨rfl, by omega⟩) ?_
          refine Ev.aload_n dX8_takesRolls_41 (Eq.refl 42) rfl ?_
          refine Ev.getI dX8_takesRolls_42 (Eq.refl 45) fg_X8_83 rfl rfl ?_
          rw [hI_eq]
          refine Ev.if_eq (tgt := 72) dX8_takesRolls_45 (Eq.refl 48) (by decide) ⟨by omega, by omega⟩ (fun c45 => ?_) (fun c45 => ?_)
          · exact Ev.vret dX8_takesRolls_72 rfl ((by first | omega | exact ⟨rfl, tk_n (mz.w (by omega)) e hI_eq⟩ | exact ⟨rfl, tk_s (((mz.w (by omega)).w (by omega)).w (by omega)) e (by rw [hI_ni (by omega), hI_ni (by omega), hI_eq]) (by rw [hI_ni (by omega), hI_ni (by omega), hI_nk (by omega)]; exact g8) hpp (gRol ok okr n1.2.1 (by rw [hI_nk (by omega), hI_eq]) hI_eq (fun i a b => by rw [hI_nk b, hI_nk a, hI_ni (by omega)]; exact g3 i))⟩))
          · refine Ev.aload_n dX8_takesRolls_48 (Eq.refl 49) rfl ?_
            refine Ev.getR dX8_takesRolls_49 (Eq.refl 52) fg_X8_17 rfl rfl (rX8_4 hR) ?_
            refine Ev.iconst dX8_takesRolls_52 (Eq.refl 53) ?_
            refine Ev.aload_n dX8_takesRolls_53 (Eq.refl 54) rfl ?_
            refine Ev.getR dX8_takesRolls_54 (Eq.refl 57) fg_X8_26 rfl rfl (rX8_10 hR) ?_
            refine Ev.iconst dX8_takesRolls_57 (Eq.refl 58) ?_
            refine Ev.iaload dX8_takesRolls_58 (Eq.refl 59) rfl rfl (by omega) (by decide) (show (0 : Int).toNat = 0 from rfl) ?_
            rw [hI_ni (by omega), n0.1]
            refine Ev.iastore dX8_takesRolls_59 (Eq.refl 60) rfl rfl (by omega) (by decide) (show (2 : Int).toNat = 2 from rfl) ?_
            refine Ev.aload_n dX8_takesRolls_60 (Eq.refl 61) rfl ?_
            refine Ev.getR dX8_takesRolls_61 (Eq.refl 64) fg_X8_17 rfl rfl (rX8_4 hR) ?_
            refine Ev.iconst dX8_takesRolls_64 (Eq.refl 65) ?_
            refine Ev.aload_n dX8_takesRolls_65 (Eq.refl 66) rfl ?_
            refine Ev.getR dX8_takesRolls_66 (Eq.refl 69) fg_X8_26 rfl rfl (rX8_10 hR) ?_
            refine Ev.iconst dX8_takesRolls_69 (Eq.refl 70) ?_
            refine Ev.iaload dX8_takesRolls_70 (Eq.refl 71) rfl rfl (by omega) (by decide) (show (1 : Int).toNat = 1 from rfl) ?_
            rw [hI_ni (by omega), hI_ni (by omega), n1.1]
            refine Ev.iastore dX8_takesRolls_71 (Eq.refl 72) rfl rfl (by omega) (by decide) (show (3 : Int).toNat = 3 from rfl) ?_
            exact Ev.vret dX8_takesRolls_72 rfl ((by first | omega | exact ⟨rfl, tk_n (mz.w (by omega)) e hI_eq⟩ | exact ⟨rfl, tk_s (((mz.w (by omega)).w (by omega)).w (by omega)) e (by rw [hI_ni (by omega), hI_ni (by omega), hI_eq]) (by rw [hI_ni (by omega), hI_ni (by omega), hI_nk (by omega)]; exact g8) hpp (gRol ok okr n1.2.1 (by rw [hI_nk (by omega), hI_eq]) hI_eq (fun i a b => by rw [hI_nk b, hI_nk a, hI_ni (by omega)]; exact g3 i))⟩))
        · have okr : okRol (r.1.getD 0 0) (r.1.getD 1 0) := ⟨⟨by omega, by omega⟩, by omega⟩
          have e := rs okr
          refine Ev.iconst dX8_takesRolls_33 (Eq.refl 34) ?_
          refine Ev.goto' (pc' := 38) dX8_takesRolls_34 (by decide) ?_
          refine Ev.putI dX8_takesRolls_38 (Eq.refl 41) fp_X8_83 rfl rfl (Or.inr ⟨rfl, by omega⟩) ?_
          refine Ev.aload_n dX8_takesRolls_41 (Eq.refl 42) rfl ?_
          refine Ev.getI dX8_takesRolls_42 (Eq.refl 45) fg_X8_83 rfl rfl ?_
          rw [hI_eq]
          refine Ev.if_eq (tgt := 72) dX8_takesRolls_45 (Eq.refl 48) (by decide) ⟨by omega, by omega⟩ (fun c45 => ?_) (fun c45 => ?_)
          · exact Ev.vret dX8_takesRolls_72 rfl ((by first | omega | exact ⟨rfl, tk_n (mz.w (by omega)) e hI_eq⟩ | exact ⟨rfl, tk_s (((mz.w (by omega)).w (by omega)).w (by omega)) e (by rw [hI_ni (by omega), hI_ni (by omega), hI_eq]) (by rw [hI_ni (by omega), hI_ni (by omega), hI_nk (by omega)]; exact g8) hpp (gRol ok okr n1.2.1 (by rw [hI_nk (by omega), hI_eq]) hI_eq (fun i a b => by rw [hI_nk b, hI_nk a, hI_ni (by omega)]; exact g3 i))⟩))
          · refine Ev.aload_n dX8_takesRolls_48 (Eq.refl 49) rfl ?_
            refine Ev.getR dX8_takesRolls_49 (Eq.refl 52) fg_X8_17 rfl rfl (rX8_4 hR) ?_
            refine Ev.iconst dX8_takesRolls_52 (Eq.refl 53) ?_
            refine Ev.aload_n dX8_takesRolls_53 (Eq.refl 54) rfl ?_
            refine Ev.getR dX8_takesRolls_54 (Eq.refl 57) fg_X8_26 rfl rfl (rX8_10 hR) ?_
            refine Ev.iconst dX8_takesRolls_57 (Eq.refl 58) ?_
            refine Ev.iaload dX8_takesRolls_58 (Eq.refl 59) rfl rfl (by omega) (by decide) (show (0 : Int).toNat = 0 from rfl) ?_
            rw [hI_ni (by omega), n0.1]
            refine Ev.iastore dX8_takesRolls_59 (Eq.refl 60) rfl rfl (by omega) (by decide) (show (2 : Int).toNat = 2 from rfl) ?_
            refine Ev.aload_n dX8_takesRolls_60 (Eq.refl 61) rfl ?_
            refine Ev.getR dX8_takesRolls_61 (Eq.refl 64) fg_X8_17 rfl rfl (rX8_4 hR) ?_
            refine Ev.iconst dX8_takesRolls_64 (Eq.refl 65) ?_
            refine Ev.aload_n dX8_takesRolls_65 (Eq.refl 66) rfl ?_
            refine Ev.getR dX8_takesRolls_66 (Eq.refl 69) fg_X8_26 rfl rfl (rX8_10 hR) ?_
            refine Ev.iconst dX8_takesRolls_69 (Eq.refl 70) ?_
            refine Ev.iaload dX8_takesRolls_70 (Eq.refl 71) rfl rfl (by omega) (by decide) (show (1 : Int).toNat = 1 from rfl) ?_
            rw [hI_ni (by omega), hI_ni (by omega), n1.1]
            refine Ev.iastore dX8_takesRolls_71 (Eq.refl 72) rfl rfl (by omega) (by decide) (show (3 : Int).toNat = 3 from rfl) ?_
            exact Ev.vret dX8_takesRolls_72 rfl ((by first | omega | exact ⟨rfl, tk_n (mz.w (by omega)) e hI_eq⟩ | exact ⟨rfl, tk_s (((mz.w (by omega)).w (by omega)).w (by omega)) e (by rw [hI_ni (by omega), hI_ni (by omega), hI_eq]) (by rw [hI_ni (by omega), hI_ni (by omega), hI_nk (by omega)]; exact g8) hpp (gRol ok okr n1.2.1 (by rw [hI_nk (by omega), hI_eq]) hI_eq (fun i a b => by rw [hI_nk b, hI_nk a, hI_ni (by omega)]; exact g3 i))⟩))
  refine Ev.aload_n dX8_takesRolls_0 (Eq.refl 1) rfl ?_
  refine Ev.iconst dX8_takesRolls_1 (Eq.refl 2) ?_
  refine Ev.cv1V dX8_takesRolls_2 (Eq.refl 5) cw_X8_99 (Nat.le_of_ble_eq_true rfl) (by decide) rfl rfl rfl (Nat.le_of_ble_eq_true rfl) (m_takesNumbers (m := 2) hR hT h8 h9 hp hb (by omega)) (fun g2 hp2 => ?_)
  obtain ⟨p', b', y1, y2, y3, y4, y5, y6, y7⟩ := hp2
  have y7 := y7 rfl
  rw [show cont t L 2 0 p = pNs t L 2 p from rfl] at y7
  have hR : MOk g2.2.2 := by rw [y1.1]; exact hR
  have e3 : ∀ j, g2.1 3 j = h.1 3 j := fun j => y1.2.1 _ _ (by omega) (by omega)
  cases hpn : pNs t L 2 p with
  | none => rw [hpn] at y7; exact TN _ hR y1.z (y1.2.2.2.trans y7) (by show (match pNs t L 2 p with | none => none | some r => _) = _; rw [hpn])
  | some r => rw [hpn] at y7; exact TS _ p' r hR y1.z e3 (y1.2.2.2.trans y7.1) y1.2.2.1 hpn y7.2.1 ⟨y2, y3⟩ (fun i hi => by have := y7.2.2 i (by omega); rw [Nat.zero_add] at this; exact this)
