/-! The model: takesFixed, takesFree -/
theorem gF0 {f : Nat → Int} (k : GOk f) : vF (gV f) (vJ (gV f)) = false := by
  have := gJ k
  exact decide_eq_false (fun z => by have := z.1; omega)
theorem gFix {f g : Nat → Int} {x y z : Int} (k : GOk f) (hk : okFix (gV f) x y z) (hx : 0 ≤ x) (hy : 0 ≤ y) (hz : 0 ≤ z) (e0 : g 0 = f 0 + 1) (ek : g (4 + vJ (gV f)) = 0) (el : g (44 + vJ (gV f)) = 0) (ex : g (14 + 3 * vJ (gV f)) = x) (ey : g (14 + 3 * vJ (gV f) + 1) = y) (ez : g (14 + 3 * vJ (gV f) + 2) = z) (e : ∀ i, i ≠ 0 → i ≠ 4 + vJ (gV f) → i ≠ 44 + vJ (gV f) → i ≠ 14 + 3 * vJ (gV f) → i ≠ 14 + 3 * vJ (gV f) + 1 → i ≠ 14 + 3 * vJ (gV f) + 2 → g i = f i) : gV g = vFix (gV f) x y z ∧ GOk g := by
  have eJ := gJ k
  have bJ := k.1
  have hJ : vJ (gV f) < 10 := hk.1
  have hFv := VOk_fix k.2.2.2.2 (gF0 k) hk hx hy hz
  generalize hJJ : vJ (gV f) = J at *
  have hJJ2 : (f 0).toNat = J := hJJ
  have a1 : g 1 = f 1 := e 1 (by omega) (by omega) (by omega) (by omega) (by omega) (by omega)
  have a2 : g 2 = f 2 := e 2 (by omega) (by omega) (by omega) (by omega) (by omega) (by omega)
  have a3 : g 3 = f 3 := e 3 (by omega) (by omega) (by omega) (by omega) (by omega) (by omega)
  have ej : ∀ j : Nat, j < J → g (4 + j) = f (4 + j) := fun j hj => e _ (by omega) (by omega) (by omega) (by omega) (by omega) (by omega)
  have ep : ∀ j a : Nat, j < J → a < 3 → g (14 + 3 * j + a) = f (14 + 3 * j + a) := fun j a hj ha => e _ (by omega) (by omega) (by omega) (by omega) (by omega) (by omega)
  have eL : ∀ j : Nat, j < J → g (44 + j) = f (44 + j) := fun j hj => e _ (by omega) (by omega) (by omega) (by omega) (by omega) (by omega)
  have es : ∀ j : Nat, 54 ≤ j → g j = f j := fun j hj => e _ (by omega) (by omega) (by omega) (by omega) (by omega) (by omega)
  have hV : gV g = vFix (gV f) x y z := by
    refine nv_ext ?_ ?_ (fun j => ?_) (fun j a => ?_) (fun j => ?_) (fun s => ?_) (fun s => ?_) (fun s => ?_) (fun s => ?_) (fun s => ?_) a2 a3
    · show (g 0).toNat = (f 0).toNat + 1; omega
    · show (g 1).toNat = (f 1).toNat; rw [a1]
    · show decide ((j : Int) < g 0 ∧ g (4 + j) = 1) = decide ((j : Int) < f 0 ∧ f (4 + j) = 1)
      have := ej j
      clear e ej ep eL es
      grind
    · show (if (j : Int) < g 0 ∧ ¬ g (4 + j) = 1 ∧ a < 3 then g (14 + 3 * j + a) else 0) = if j = (f 0).toNat then (if a = 0 then x else if a = 1 then y else if a = 2 then z else 0) else if (j : Int) < f 0 ∧ ¬ f (4 + j) = 1 ∧ a < 3 then f (14 + 3 * j + a) else 0
      have q1 := ej j
      have q2 := ep j a
      by_cases w : j = J
      · subst w
        rw [if_pos hJJ2.symm]
        by_cases l : a < 3
        · rw [if_pos ⟨by omega, by omega, l⟩]
          rcases (by omega : a = 0 ∨ a = 1 ∨ a = 2) with rfl | rfl | rfl
          · exact ex
          · exact ey
          · exact ez
        · rw [if_neg (fun z => l z.2.2), if_neg (by omega), if_neg (by omega), if_neg (by omega)]
      · rw [if_neg (show ¬ j = (f 0).toNat by omega)]
        clear e ej ep eL es
        grind
    · show (if (j : Int) < g 0 then g (44 + j) else 0) = if j = (f 0).toNat then 0 else if (j : Int) < f 0 then f (44 + j) else 0
      have q1 := eL j
      clear e ej ep eL es
      grind
    · show (if (s : Int) < g 1 then (g (54 + 5 * s)).toNat else 0) = if (s : Int) < f 1 then (f (54 + 5 * s)).toNat else 0; rw [a1, es _ (by omega)]
    · show (if (s : Int) < g 1 then (g (54 + 5 * s + 1)).toNat else 0) = if (s : Int) < f 1 then (f (54 + 5 * s + 1)).toNat else 0; rw [a1, es _ (by omega)]
    · show (if (s : Int) < g 1 then g (54 + 5 * s + 2) else 0) = if (s : Int) < f 1 then f (54 + 5 * s + 2) else 0; rw [a1, es _ (by omega)]
    · show (if (s : Int) < g 1 then g (54 + 5 * s + 3) else 0) = if (s : Int) < f 1 then f (54 + 5 * s + 3) else 0; rw [a1, es _ (by omega)]
    · show decide ((s : Int) < g 1 ∧ g (54 + 5 * s + 4) = 0) = decide ((s : Int) < f 1 ∧ f (54 + 5 * s + 4) = 0); rw [a1, es _ (by omega)]
  refine ⟨hV, by omega, by rw [a1]; exact k.2.1, fun j hj => ?_, fun s hs => ?_, by rw [hV]; exact hFv⟩
  · by_cases w : j = J
    · rw [w]; exact Or.inl ek
    · rw [ej j (by omega)]; exact k.2.2.1 j (by omega)
  · rw [es _ (by omega), es (54 + 5 * s + 1) (by omega), es (54 + 5 * s + 4) (by omega)]
    have := k.2.2.2.1 s (by rw [← a1]; exact hs)
    exact ⟨⟨this.1.1, by omega⟩, ⟨this.2.1.1, by omega⟩, this.2.2⟩
theorem gFre {f g : Nat → Int} {w : Int} (k : GOk f) (hk : okFre (gV f) w) (hw : -9 ≤ w) (e0 : g 0 = f 0 + 1) (ek : g (4 + vJ (gV f)) = 1) (el : g (44 + vJ (gV f)) = w) (e : ∀ i, i ≠ 0 → i ≠ 4 + vJ (gV f) → i ≠ 44 + vJ (gV f) → i ≠ 14 + 3 * vJ (gV f) → i ≠ 14 + 3 * vJ (gV f) + 1 → i ≠ 14 + 3 * vJ (gV f) + 2 → g i = f i) : gV g = vFre (gV f) w ∧ GOk g := by
  have eJ := gJ k
  have bJ := k.1
  have hJ : vJ (gV f) < 10 := hk.1
  have hFv := VOk_fre k.2.2.2.2 (gF0 k) hk hw
  generalize hJJ : vJ (gV f) = J at *
  have hJJ2 : (f 0).toNat = J := hJJ
  have a1 : g 1 = f 1 := e 1 (by omega) (by omega) (by omega) (by omega) (by omega) (by omega)
  have a2 : g 2 = f 2 := e 2 (by omega) (by omega) (by omega) (by omega) (by omega) (by omega)
  have a3 : g 3 = f 3 := e 3 (by omega) (by omega) (by omega) (by omega) (by omega) (by omega)
  have ej : ∀ j : Nat, j < J → g (4 + j) = f (4 + j) := fun j hj => e _ (by omega) (by omega) (by omega) (by omega) (by omega) (by omega)
  have ep : ∀ j a : Nat, j < J → a < 3 → g (14 + 3 * j + a) = f (14 + 3 * j + a) := fun j a hj ha => e _ (by omega) (by omega) (by omega) (by omega) (by omega) (by omega)
  have eL : ∀ j : Nat, j < J → g (44 + j) = f (44 + j) := fun j hj => e _ (by omega) (by omega) (by omega) (by omega) (by omega) (by omega)
  have es : ∀ j : Nat, 54 ≤ j → g j = f j := fun j hj => e _ (by omega) (by omega) (by omega) (by omega) (by omega) (by omega)
  have hV : gV g = vFre (gV f) w := by
    refine nv_ext ?_ ?_ (fun j => ?_) (fun j a => ?_) (fun j => ?_) (fun s => ?_) (fun s => ?_) (fun s => ?_) (fun s => ?_) (fun s => ?_) a2 a3
    · show (g 0).toNat = (f 0).toNat + 1; omega
    · show (g 1).toNat = (f 1).toNat; rw [a1]
    · show decide ((j : Int) < g 0 ∧ g (4 + j) = 1) = if j = (f 0).toNat then true else decide ((j : Int) < f 0 ∧ f (4 + j) = 1)
      have := ej j
      clear e ej ep eL es
      grind
    · show (if (j : Int) < g 0 ∧ ¬ g (4 + j) = 1 ∧ a < 3 then g (14 + 3 * j + a) else 0) = if (j : Int) < f 0 ∧ ¬ f (4 + j) = 1 ∧ a < 3 then f (14 + 3 * j + a) else 0
      have q1 := ej j
      have q2 := ep j a
      clear e ej ep eL es
      grind
    · show (if (j : Int) < g 0 then g (44 + j) else 0) = if j = (f 0).toNat then w else if (j : Int) < f 0 then f (44 + j) else 0
      have q1 := eL j
      clear e ej ep eL es
      grind
    · show (if (s : Int) < g 1 then (g (54 + 5 * s)).toNat else 0) = if (s : Int) < f 1 then (f (54 + 5 * s)).toNat else 0; rw [a1, es _ (by omega)]
    · show (if (s : Int) < g 1 then (g (54 + 5 * s + 1)).toNat else 0) = if (s : Int) < f 1 then (f (54 + 5 * s + 1)).toNat else 0; rw [a1, es _ (by omega)]
    · show (if (s : Int) < g 1 then g (54 + 5 * s + 2) else 0) = if (s : Int) < f 1 then f (54 + 5 * s + 2) else 0; rw [a1, es _ (by omega)]
    · show (if (s : Int) < g 1 then g (54 + 5 * s + 3) else 0) = if (s : Int) < f 1 then f (54 + 5 * s + 3) else 0; rw [a1, es _ (by omega)]
    · show decide ((s : Int) < g 1 ∧ g (54 + 5 * s + 4) = 0) = decide ((s : Int) < f 1 ∧ f (54 + 5 * s + 4) = 0); rw [a1, es _ (by omega)]
  refine ⟨hV, by omega, by rw [a1]; exact k.2.1, fun j hj => ?_, fun s hs => ?_, by rw [hV]; exact hFv⟩
  · by_cases w : j = J
    · rw [w]; exact Or.inr ek
    · rw [ej j (by omega)]; exact k.2.2.1 j (by omega)
  · rw [es _ (by omega), es (54 + 5 * s + 1) (by omega), es (54 + 5 * s + 4) (by omega)]
    have := k.2.2.2.1 s (by rw [← a1]; exact hs)
    exact ⟨⟨this.1.1, by omega⟩, ⟨this.2.1.1, by omega⟩, this.2.2⟩
theorem resI_e {t : Nat → Int} {L : Nat} {c : Int} {p : Nat} {v : Nv} {r : List Int × Nat} (hr : pNs t L (nOf c) p = some r) : resI t L c p v = match item c (fun i => r.1.getD i 0) v with | none => none | some w => some (r.2, w) := by unfold resI; rw [hr]; rfl
theorem resI_n {t : Nat → Int} {L : Nat} {c : Int} {p : Nat} {v : Nv} (hr : pNs t L (nOf c) p = none) : resI t L c p v = none := by unfold resI; rw [hr]
theorem m_takesFixed {h : Hp} {t : Nat → Int} {L p : Nat} (hR : MOk h.2.2) (hT : MT h t L) (h8 : h.1 0 8 = (p : Int)) (h9 : h.1 0 9 = 1) (hp : p ≤ L) (ok : GOk (h.1 3)) : Ev mX8_takesFixed 4 0 (entL [.ref 0] 3) [] h (PV (fun h' => tkP t L 102 p (gV (h.1 3)) h h')) := by
  show Ev mX8_takesFixed 4 0 [some (.ref 0), none, none] [] h _
  have hb : (0 : Int) ≤ 1 ∧ (1 : Int) ≤ 1 := by omega
  have bJ := ok.1
  have eJ := gJ ok
  have TN : ∀ g, MOk g.2.2 → Mz h g → g.1 0 9 = 0 → resI t L 102 p (gV (h.1 3)) = none → Ev mX8_takesFixed 4 5 [some (.ref 0), none, none] [] g (PV (fun h' => tkP t L 102 p (gV (h.1 3)) h h')) := by
    intro g hR mz g9 e
    refine Ev.aload_n dX8_takesFixed_5 (Eq.refl 6) rfl ?_
    refine Ev.aload_n dX8_takesFixed_6 (Eq.refl 7) rfl ?_
    refine Ev.getI dX8_takesFixed_7 (Eq.refl 10) fg_X8_83 rfl rfl ?_
    rw [g9]
    refine Ev.if_eq (tgt := 61) dX8_takesFixed_10 (Eq.refl 13) (by decide) ⟨by omega, by omega⟩ (fun c10 => ?_) (fun c10 => ?_)
    · refine Ev.iconst dX8_takesFixed_61 (Eq.refl 62) ?_
      refine Ev.putI dX8_takesFixed_62 (Eq.refl 65) fp_X8_83 rfl rfl (Or.inr ⟨rfl, by omega⟩) ?_
      refine Ev.aload_n dX8_takesFixed_65 (Eq.refl 66) rfl ?_
      refine Ev.getI dX8_takesFixed_66 (Eq.refl 69) fg_X8_83 rfl rfl ?_
      rw [hI_eq]
      refine Ev.if_eq (tgt := 140) dX8_takesFixed_69 (Eq.refl 72) (by decide) ⟨by omega, by omega⟩ (fun c69 => ?_) (fun c69 => ?_)
      · exact Ev.vret dX8_takesFixed_140 rfl (⟨rfl, tk_n (mz.w (by omega)) e hI_eq⟩)
      · omega
    · omega
  have TS : ∀ (g : Hp) (p' : Nat) (r : List Int × Nat), MOk g.2.2 → Mz h g → (∀ j, g.1 3 j = h.1 3 j) → g.1 0 9 = 1 → g.1 0 8 = (p' : Int) → pNs t L 3 p = some r → p' = r.2 → p ≤ p' ∧ p' ≤ L → (∀ i, i < 3 → g.1 6 i = r.1.getD i 0 ∧ 0 ≤ r.1.getD i 0 ∧ r.1.getD i 0 ≤ 99) → Ev mX8_takesFixed 4 5 [some (.ref 0), none, none] [] g (PV (fun h' => tkP t L 102 p (gV (h.1 3)) h h')) := by
    intro g p' r hR mz g3 g9 g8 hr ep hpp hn
    subst ep
    have n0 := hn 0 (by omega)
    have n1 := hn 1 (by omega)
    have n2 := hn 2 (by omega)
    have ei : item 102 (fun i => r.1.getD i 0) (gV (h.1 3)) = cif (okFix (gV (h.1 3)) (r.1.getD 0 0) (r.1.getD 1 0) (r.1.getD 2 0)) (some (vFix (gV (h.1 3)) (r.1.getD 0 0) (r.1.getD 1 0) (r.1.getD 2 0))) none := rfl
    have er := resI_e (t := t) (L := L) (c := 102) (p := p) (v := gV (h.1 3)) (r := r) hr
    have rn : ¬ okFix (gV (h.1 3)) (r.1.getD 0 0) (r.1.getD 1 0) (r.1.getD 2 0) → resI t L 102 p (gV (h.1 3)) = none := fun z => by rw [er, ei, cif_f z]
    have rs : okFix (gV (h.1 3)) (r.1.getD 0 0) (r.1.getD 1 0) (r.1.getD 2 0) → resI t L 102 p (gV (h.1 3)) = some (r.2, vFix (gV (h.1 3)) (r.1.getD 0 0) (r.1.getD 1 0) (r.1.getD 2 0)) := fun z => by rw [er, ei, cif_t z]
    have d0 : g.1 3 0 = (vJ (gV (h.1 3)) : Int) := (g3 0).trans eJ
    generalize hJJ : vJ (gV (h.1 3)) = J at *
    have LOOP : okFix (gV (h.1 3)) (r.1.getD 0 0) (r.1.getD 1 0) (r.1.getD 2 0) → ∀ (m k : Nat) (f : Hp), 3 - k = m → k ≤ 3 → MOk f.2.2 → Mz h f → f.1 0 9 = 1 → f.1 0 8 = (r.2 : Int) → f.1 3 0 = (J : Int) → f.1 3 (4 + J) = 0 → f.1 3 (44 + J) = 0 → (∀ i, i < k → f.1 3 (14 + 3 * J + i) = r.1.getD i 0) → (∀ i, i < 3 → f.1 6 i = r.1.getD i 0) → (∀ i, i ≠ 4 + J → i ≠ 44 + J → (i < 14 + 3 * J ∨ 14 + 3 * J + 2 < i) → f.1 3 i = h.1 3 i) → Ev mX8_takesFixed 4 100 [some (.ref 0), some (iv (J : Int)), some (iv (k : Int))] [] f (PV (fun h' => tkP t L 102 p (gV (h.1 3)) h h')) := by
      intro okf m
      have J10 : J < 10 := by rw [← hJJ]; exact okf.1
      induction m using Nat.strongRecOn with
      | ind m ih =>
        intro k f hm hk hR mz f9 f8 f0 fk fl fx f6 fo
        by_cases k3 : k < 3
        · have q1 : ((14 : Int) + 3 * (J : Int) + (k : Int)).toNat = 14 + 3 * J + k := by omega
          refine Ev.iload_n dX8_takesFixed_100 (Eq.refl 101) rfl ?_
          refine Ev.iconst dX8_takesFixed_101 (Eq.refl 102) ?_
          refine Ev.icmp_ge (tgt := 130) dX8_takesFixed_102 (Eq.refl 105) (by decide) ⟨by omega, by omega⟩ ⟨by omega, by omega⟩ (fun c102 => ?_) (fun c102 => ?_)
          · omega
          · refine Ev.aload_n dX8_takesFixed_105 (Eq.refl 106) rfl ?_
            refine Ev.getR dX8_takesFixed_106 (Eq.refl 109) fg_X8_17 rfl rfl (rX8_4 hR) ?_
            refine Ev.bipush dX8_takesFixed_109 (Eq.refl 111) (by decide) ?_
            refine Ev.iconst dX8_takesFixed_111 (Eq.refl 112) ?_
            refine Ev.iload_n dX8_takesFixed_112 (Eq.refl 113) rfl ?_
            refine Ev.imul dX8_takesFixed_113 (Eq.refl 114) ?_
            refine Ev.iadd dX8_takesFixed_114 (Eq.refl 115) ?_
            refine Ev.iload_n dX8_takesFixed_115 (Eq.refl 116) rfl ?_
            refine Ev.iadd dX8_takesFixed_116 (Eq.refl 117) ?_
            refine Ev.aload_n dX8_takesFixed_117 (Eq.refl 118) rfl ?_
            refine Ev.getR dX8_takesFixed_118 (Eq.refl 121) fg_X8_26 rfl rfl (rX8_10 hR) ?_
            refine Ev.iload_n dX8_takesFixed_121 (Eq.refl 122) rfl ?_
            refine Ev.iaload dX8_takesFixed_122 (Eq.refl 123) rfl rfl (by omega) (by decide) (by first | with_reducible exact Int.toNat_natCast _ | exact Eq.refl _) ?_
            rw [f6 k k3]
            refine Ev.iastore dX8_takesFixed_123 (Eq.refl 124) rfl rfl (by omega) (by decide) q1 ?_
            refine Ev.ii2 dX8_takesFixed_124 (Eq.refl 127) (by decide) rfl ?_
            refine Ev.goto' (pc' := 100) dX8_takesFixed_127 (by decide) ?_
            exact ih _ (by omega) (k + 1) _ rfl (by omega) hR (mz.w (by omega)) (by rw [hI_ni (by omega)]; exact f9) (by rw [hI_ni (by omega)]; exact f8) (by rw [hI_nk (by omega)]; exact f0) (by rw [hI_nk (by omega)]; exact fk) (by rw [hI_nk (by omega)]; exact fl) (fun i hi => if e : i = k then by rw [e, hI_eq] else by rw [hI_nk (by omega)]; exact fx i (by omega)) (fun i hi => by rw [hI_ni (by omega)]; exact f6 i hi) (fun i a b c => by rw [hI_nk (by omega)]; exact fo i a b c)
        · have x0 := fx 0 (by omega)
          have x1 := fx 1 (by omega)
          have x2 := fx 2 (by omega)
          refine Ev.iload_n dX8_takesFixed_100 (Eq.refl 101) rfl ?_
          refine Ev.iconst dX8_takesFixed_101 (Eq.refl 102) ?_
          refine Ev.icmp_ge (tgt := 130) dX8_takesFixed_102 (Eq.refl 105) (by decide) ⟨by omega, by omega⟩ ⟨by omega, by omega⟩ (fun c102 => ?_) (fun c102 => ?_)
          · refine Ev.aload_n dX8_takesFixed_130 (Eq.refl 131) rfl ?_
            refine Ev.getR dX8_takesFixed_131 (Eq.refl 134) fg_X8_17 rfl rfl (rX8_4 hR) ?_
            refine Ev.iconst dX8_takesFixed_134 (Eq.refl 135) ?_
            refine Ev.dup2 dX8_takesFixed_135 (Eq.refl 136) rfl rfl ?_
            refine Ev.iaload dX8_takesFixed_136 (Eq.refl 137) rfl rfl (by omega) (by decide) (show (0 : Int).toNat = 0 from rfl) ?_
            rw [f0]
            refine Ev.iconst dX8_takesFixed_137 (Eq.refl 138) ?_
            refine Ev.iadd dX8_takesFixed_138 (Eq.refl 139) ?_
            refine Ev.iastore dX8_takesFixed_139 (Eq.refl 140) rfl rfl (by omega) (by decide) (show (0 : Int).toNat = 0 from rfl) ?_
            exact Ev.vret dX8_takesFixed_140 rfl (⟨rfl, tk_s (mz.w (by omega)) (rs okf) (by rw [hI_ni (by omega)]; exact f9) (by rw [hI_ni (by omega)]; exact f8) hpp (gFix ok okf n0.2.1 n1.2.1 n2.2.1 (by rw [hI_eq, eJ]) (by rw [hJJ, hI_nk (by omega)]; exact fk) (by rw [hJJ, hI_nk (by omega)]; exact fl) (by rw [hJJ, hI_nk (by omega)]; exact x0) (by rw [hJJ, hI_nk (by omega)]; exact x1) (by rw [hJJ, hI_nk (by omega)]; exact x2) (fun i a b c d e f => by rw [hJJ] at b c d e f; rw [hI_nk a]; exact fo i b c (by omega)))⟩)
          · omega
    refine Ev.aload_n dX8_takesFixed_5 (Eq.refl 6) rfl ?_
    refine Ev.aload_n dX8_takesFixed_6 (Eq.refl 7) rfl ?_
    refine Ev.getI dX8_takesFixed_7 (Eq.refl 10) fg_X8_83 rfl rfl ?_
    rw [g9]
    refine Ev.if_eq (tgt := 61) dX8_takesFixed_10 (Eq.refl 13) (by decide) ⟨by omega, by omega⟩ (fun c10 => ?_) (fun c10 => ?_)
    · omega
    · refine Ev.aload_n dX8_takesFixed_13 (Eq.refl 14) rfl ?_
      refine Ev.getR dX8_takesFixed_14 (Eq.refl 17) fg_X8_17 rfl rfl (rX8_4 hR) ?_
      refine Ev.iconst dX8_takesFixed_17 (Eq.refl 18) ?_
      refine Ev.iaload dX8_takesFixed_18 (Eq.refl 19) rfl rfl (by omega) (by decide) (show (0 : Int).toNat = 0 from rfl) ?_
      rw [d0]
      refine Ev.bipush dX8_takesFixed_19 (Eq.refl 21) (by decide) ?_
      refine Ev.icmp_ge (tgt := 61) dX8_takesFixed_21 (Eq.refl 24) (by decide) ⟨by omega, by omega⟩ ⟨by omega, by omega⟩ (fun c21 => ?_) (fun c21 => ?_)
      · have e := rn (fun z => by have := z.1; rw [hJJ] at this; omega)
        refine Ev.iconst dX8_takesFixed_61 (Eq.refl 62) ?_
        refine Ev.putI dX8_takesFixed_62 (Eq.refl 65) fp_X8_83 rfl rfl (Or.inr ⟨rfl, by omega⟩) ?_
        refine Ev.aload_n dX8_takesFixed_65 (Eq.refl 66) rfl ?_
        refine Ev.getI dX8_takesFixed_66 (Eq.refl 69) fg_X8_83 rfl rfl ?_
        rw [hI_eq]
        refine Ev.if_eq (tgt := 140) dX8_takesFixed_69 (Eq.refl 72) (by decide) ⟨by omega, by omega⟩ (fun c69 => ?_) (fun c69 => ?_)
        · exact Ev.vret dX8_takesFixed_140 rfl ((by first | exact ⟨rfl, tk_n (mz.w (by omega)) e hI_eq⟩ | omega))
        · refine Ev.aload_n dX8_takesFixed_72 (Eq.refl 73) rfl ?_
          refine Ev.getR dX8_takesFixed_73 (Eq.refl 76) fg_X8_17 rfl rfl (rX8_4 hR) ?_
          refine Ev.iconst dX8_takesFixed_76 (Eq.refl 77) ?_
          refine Ev.iaload dX8_takesFixed_77 (Eq.refl 78) rfl rfl (by omega) (by decide) (show (0 : Int).toNat = 0 from rfl) ?_
          rw [hI_ni (by omega), d0]
          refine Ev.is1 dX8_takesFixed_78 (Eq.refl 79) (by decide) rfl ?_
          refine Ev.aload_n dX8_takesFixed_79 (Eq.refl 80) rfl ?_
          refine Ev.getR dX8_takesFixed_80 (Eq.refl 83) fg_X8_17 rfl rfl (rX8_4 hR) ?_
          refine Ev.iconst dX8_takesFixed_83 (Eq.refl 84) ?_
          refine Ev.iload_n dX8_takesFixed_84 (Eq.refl 85) rfl ?_
          refine Ev.iadd dX8_takesFixed_85 (Eq.refl 86) ?_
          refine Ev.iconst dX8_takesFixed_86 (Eq.refl 87) ?_
          refine Ev.iastore dX8_takesFixed_87 (Eq.refl 88) rfl rfl (by omega) (by decide) (show ((4 : Int) + (J : Int)).toNat = 4 + J by omega) ?_
          refine Ev.aload_n dX8_takesFixed_88 (Eq.refl 89) rfl ?_
          refine Ev.getR dX8_takesFixed_89 (Eq.refl 92) fg_X8_17 rfl rfl (rX8_4 hR) ?_
          refine Ev.bipush dX8_takesFixed_92 (Eq.refl 94) (by decide) ?_
          refine Ev.iload_n dX8_takesFixed_94 (Eq.refl 95) rfl ?_
          refine Ev.iadd dX8_takesFixed_95 (Eq.refl 96) ?_
          refine Ev.iconst dX8_takesFixed_96 (Eq.refl 97) ?_
          refine Ev.iastore dX8_takesFixed_97 (Eq.refl 98) rfl rfl (by omega) (by decide) (show ((44 : Int) + (J : Int)).toNat = 44 + J by omega) ?_
          refine Ev.iconst dX8_takesFixed_98 (Eq.refl 99) ?_
          refine Ev.is2 dX8_takesFixed_99 (Eq.refl 100) (by decide) rfl ?_
          first | omega | exact LOOP okf _ 0 _ rfl (by omega) hR (((mz.w (by omega)).w (by omega)).w (by omega)) (by rw [hI_ni (by omega), hI_ni (by omega), hI_eq]) (by rw [hI_ni (by omega), hI_ni (by omega), hI_nk (by omega)]; exact g8) (by rw [hI_nk (by omega), hI_nk (by omega), hI_ni (by omega)]; exact d0) (by rw [hI_nk (by omega), hI_eq]) hI_eq (fun i hi => by omega) (fun i hi => by rw [hI_ni (by omega), hI_ni (by omega), hI_ni (by omega)]; exact (hn i hi).1) (fun i a b c => by rw [hI_nk b, hI_nk a, hI_ni (by omega)]; exact g3 i)
      · refine Ev.aload_n dX8_takesFixed_24 (Eq.refl 25) rfl ?_
        refine Ev.getR dX8_takesFixed_25 (Eq.refl 28) fg_X8_26 rfl rfl (rX8_10 hR) ?_
        refine Ev.iconst dX8_takesFixed_28 (Eq.refl 29) ?_
        refine Ev.iaload dX8_takesFixed_29 (Eq.refl 30) rfl rfl (by omega) (by decide) (show (0 : Int).toNat = 0 from rfl) ?_
        rw [n0.1]
        refine Ev.bipush dX8_takesFixed_30 (Eq.refl 32) (by decide) ?_
        refine Ev.icmp_gt (tgt := 61) dX8_takesFixed_32 (Eq.refl 35) (by decide) ⟨by omega, by omega⟩ ⟨by omega, by omega⟩ (fun c32 => ?_) (fun c32 => ?_)
        · have e := rn (fun z => by have := z.2.1; omega)
          refine Ev.iconst dX8_takesFixed_61 (Eq.refl 62) ?_
          refine Ev.putI dX8_takesFixed_62 (Eq.refl 65) fp_X8_83 rfl rfl (Or.inr ⟨rfl, by omega⟩) ?_
          refine Ev.aload_n dX8_takesFixed_65 (Eq.refl 66) rfl ?_
          refine Ev.getI dX8_takesFixed_66 (Eq.refl 69) fg_X8_83 rfl rfl ?_
          rw [hI_eq]
          refine Ev.if_eq (tgt := 140) dX8_takesFixed_69 (Eq.refl 72) (by decide) ⟨by omega, by omega⟩ (fun c69 => ?_) (fun c69 => ?_)
          · exact Ev.vret dX8_takesFixed_140 rfl ((by first | exact ⟨rfl, tk_n (mz.w (by omega)) e hI_eq⟩ | omega))
          · refine Ev.aload_n dX8_takesFixed_72 (Eq.refl 73) rfl ?_
            refine Ev.getR dX8_takesFixed_73 (Eq.refl 76) fg_X8_17 rfl rfl (rX8_4 hR) ?_
            refine Ev.iconst dX8_takesFixed_76 (Eq.refl 77) ?_
            refine Ev.iaload dX8_takesFixed_77 (Eq.refl 78) rfl rfl (by omega) (by decide) (show (0 : Int).toNat = 0 from rfl) ?_
            rw [hI_ni (by omega), d0]
            refine Ev.is1 dX8_takesFixed_78 (Eq.refl 79) (by decide) rfl ?_
            refine Ev.aload_n dX8_takesFixed_79 (Eq.refl 80) rfl ?_
            refine Ev.getR dX8_takesFixed_80 (Eq.refl 83) fg_X8_17 rfl rfl (rX8_4 hR) ?_
            refine Ev.iconst dX8_takesFixed_83 (Eq.refl 84) ?_
            refine Ev.iload_n dX8_takesFixed_84 (Eq.refl 85) rfl ?_
            refine Ev.iadd dX8_takesFixed_85 (Eq.refl 86) ?_
            refine Ev.iconst dX8_takesFixed_86 (Eq.refl 87) ?_
            refine Ev.iastore dX8_takesFixed_87 (Eq.refl 88) rfl rfl (by omega) (by decide) (show ((4 : Int) + (J : Int)).toNat = 4 + J by omega) ?_
            refine Ev.aload_n dX8_takesFixed_88 (Eq.refl 89) rfl ?_
            refine Ev.getR dX8_takesFixed_89 (Eq.refl 92) fg_X8_17 rfl rfl (rX8_4 hR) ?_
            refine Ev.bipush dX8_takesFixed_92 (Eq.refl 94) (by decide) ?_
            refine Ev.iload_n dX8_takesFixed_94 (Eq.refl 95) rfl ?_
            refine Ev.iadd dX8_takesFixed_95 (Eq.refl 96) ?_
            refine Ev.iconst dX8_takesFixed_96 (Eq.refl 97) ?_
            refine Ev.iastore dX8_takesFixed_97 (Eq.refl 98) rfl rfl (by omega) (by decide) (show ((44 : Int) + (J : Int)).toNat = 44 + J by omega) ?_
            refine Ev.iconst dX8_takesFixed_98 (Eq.refl 99) ?_
            refine Ev.is2 dX8_takesFixed_99 (Eq.refl 100) (by decide) rfl ?_
            first | omega | exact LOOP okf _ 0 _ rfl (by omega) hR (((mz.w (by omega)).w (by omega)).w (by omega)) (by rw [hI_ni (by omega), hI_ni (by omega), hI_eq]) (by rw [hI_ni (by omega), hI_ni (by omega), hI_nk (by omega)]; exact g8) (by rw [hI_nk (by omega), hI_nk (by omega), hI_ni (by omega)]; exact d0) (by rw [hI_nk (by omega), hI_eq]) hI_eq (fun i hi => by omega) (fun i hi => by rw [hI_ni (by omega), hI_ni (by omega), hI_ni (by omega)]; exact (hn i hi).1) (fun i a b c => by rw [hI_nk b, hI_nk a, hI_ni (by omega)]; exact g3 i)
        · refine Ev.aload_n dX8_takesFixed_35 (Eq.refl 36) rfl ?_
          refine Ev.getR dX8_takesFixed_36 (Eq.refl 39) fg_X8_26 rfl rfl (rX8_10 hR) ?_
          refine Ev.iconst dX8_takesFixed_39 (Eq.refl 40) ?_
          refine Ev.iaload dX8_takesFixed_40 (Eq.refl 41) rfl rfl (by omega) (by decide) (show (1 : Int).toNat = 1 from rfl) ?_
          rw [n1.1]
          refine Ev.bipush dX8_takesFixed_41 (Eq.refl 43) (by decide) ?_
          refine Ev.icmp_gt (tgt := 61) dX8_takesFixed_43 (Eq.refl 46) (by decide) ⟨by omega, by omega⟩ ⟨by omega, by omega⟩ (fun c43 => ?_) (fun c43 => ?_)
          · have e := rn (fun z => by have := z.2.2.1; omega)
            refine Ev.iconst dX8_takesFixed_61 (Eq.refl 62) ?_
            refine Ev.putI dX8_takesFixed_62 (Eq.refl 65) fp_X8_83 rfl rfl (Or.inr ⟨rfl, by omega⟩) ?_
            refine Ev.aload_n dX8_takesFixed_65 (Eq.refl 66) rfl ?_
            refine Ev.getI dX8_takesFixed_66 (Eq.refl 69) fg_X8_83 rfl rfl ?_
            rw [hI_eq]
            refine Ev.if_eq (tgt := 140) dX8_takesFixed_69 (Eq.refl 72) (by decide) ⟨by omega, by omega⟩ (fun c69 => ?_) (fun c69 => ?_)
            · exact Ev.vret dX8_takesFixed_140 rfl ((by first | exact ⟨rfl, tk_n (mz.w (by omega)) e hI_eq⟩ | omega))
            · refine Ev.aload_n dX8_takesFixed_72 (Eq.refl 73) rfl ?_
              refine Ev.getR dX8_takesFixed_73 (Eq.refl 76) fg_X8_17 rfl rfl (rX8_4 hR) ?_
              refine Ev.iconst dX8_takesFixed_76 (Eq.refl 77) ?_
              refine Ev.iaload dX8_takesFixed_77 (Eq.refl 78) rfl rfl (by omega) (by decide) (show (0 : Int).toNat = 0 from rfl) ?_
              rw [hI_ni (by omega), d0]
              refine Ev.is1 dX8_takesFixed_78 (Eq.refl 79) (by decide) rfl ?_
              refine Ev.aload_n dX8_takesFixed_79 (Eq.refl 80) rfl ?_
              refine Ev.getR dX8_takesFixed_80 (Eq.refl 83) fg_X8_17 rfl rfl (rX8_4 hR) ?_
              refine Ev.iconst dX8_takesFixed_83 (Eq.refl 84) ?_
              refine Ev.iload_n dX8_takesFixed_84 (Eq.refl 85) rfl ?_
              refine Ev.iadd dX8_takesFixed_85 (Eq.refl 86) ?_
              refine Ev.iconst dX8_takesFixed_86 (Eq.refl 87) ?_
              refine Ev.iastore dX8_takesFixed_87 (Eq.refl 88) rfl rfl (by omega) (by decide) (show ((4 : Int) + (J : Int)).toNat = 4 + J by omega) ?_
              refine Ev.aload_n dX8_takesFixed_88 (Eq.refl 89) rfl ?_
              refine Ev.getR dX8_takesFixed_89 (Eq.refl 92) fg_X8_17 rfl rfl (rX8_4 hR) ?_
              refine Ev.bipush dX8_takesFixed_92 (Eq.refl 94) (by decide) ?_
              refine Ev.iload_n dX8_takesFixed_94 (Eq.refl 95) rfl ?_
              refine Ev.iadd dX8_takesFixed_95 (Eq.refl 96) ?_
              refine Ev.iconst dX8_takesFixed_96 (Eq.refl 97) ?_
              refine Ev.iastore dX8_takesFixed_97 (Eq.refl 98) rfl rfl (by omega) (by decide) (show ((44 : Int) + (J : Int)).toNat = 44 + J by omega) ?_
              refine Ev.iconst dX8_takesFixed_98 (Eq.refl 99) ?_
              refine Ev.is2 dX8_takesFixed_99 (Eq.refl 100) (by decide) rfl ?_
              first | omega | exact LOOP okf _ 0 _ rfl (by omega) hR (((mz.w (by omega)).w (by omega)).w (by omega)) (by rw [hI_ni (by omega), hI_ni (by omega), hI_eq]) (by rw [hI_ni (by omega), hI_ni (by omega), hI_nk (by omega)]; exact g8) (by rw [hI_nk (by omega), hI_nk (by omega), hI_ni (by omega)]; exact d0) (by rw [hI_nk (by omega), hI_eq]) hI_eq (fun i hi => by omega) (fun i hi => by rw [hI_ni (by omega), hI_ni (by omega), hI_ni (by omega)]; exact (hn i hi).1) (fun i a b c => by rw [hI_nk b, hI_nk a, hI_ni (by omega)]; exact g3 i)
          · refine Ev.aload_n dX8_takesFixed_46 (Eq.refl 47) rfl ?_
            refine Ev.getR dX8_takesFixed_47 (Eq.refl 50) fg_X8_26 rfl rfl (rX8_10 hR) ?_
            refine Ev.iconst dX8_takesFixed_50 (Eq.refl 51) ?_
            refine Ev.iaload dX8_takesFixed_51 (Eq.refl 52) rfl rfl (by omega) (by decide) (show (2 : Int).toNat = 2 from rfl) ?_
            rw [n2.1]
            refine Ev.bipush dX8_takesFixed_52 (Eq.refl 54) (by decide) ?_
            refine Ev.icmp_gt (tgt := 61) dX8_takesFixed_54 (Eq.refl 57) (by decide) ⟨by omega, by omega⟩ ⟨by omega, by omega⟩ (fun c54 => ?_) (fun c54 => ?_)
            · have e := rn (fun z => by have := z.2.2.2; omega)
              refine Ev.iconst dX8_takesFixed_61 (Eq.refl 62) ?_
              refine Ev.putI dX8_takesFixed_62 (Eq.refl 65) fp_X8_83 rfl rfl (Or.inr ⟨rfl, by omega⟩) ?_
              refine Ev.aload_n dX8_takesFixed_65 (Eq.refl 66) rfl ?_
              refine Ev.getI dX8_takesFixed_66 (Eq.refl 69) fg_X8_83 rfl rfl ?_
              rw [hI_eq]
              refine Ev.if_eq (tgt := 140) dX8_takesFixed_69 (Eq.refl 72) (by decide) ⟨by omega, by omega⟩ (fun c69 => ?_) (fun c69 => ?_)
              · exact Ev.vret dX8_takesFixed_140 rfl ((by first | exact ⟨rfl, tk_n (mz.w (by omega)) e hI_eq⟩ | omega))
              · refine Ev.aload_n dX8_takesFixed_72 (Eq.refl 73) rfl ?_
                refine Ev.getR dX8_takesFixed_73 (Eq.refl 76) fg_X8_17 rfl rfl (rX8_4 hR) ?_
                refine Ev.iconst dX8_takesFixed_76 (Eq.refl 77) ?_
                refine Ev.iaload dX8_takesFixed_77 (Eq.refl 78) rfl rfl (by omega) (by decide) (show (0 : Int).toNat = 0 from rfl) ?_
                rw [hI_ni (by omega), d0]
                refine Ev.is1 dX8_takesFixed_78 (Eq.refl 79) (by decide) rfl ?_
                refine Ev.aload_n dX8_takesFixed_79 (Eq.refl 80) rfl ?_
                refine Ev.getR dX8_takesFixed_80 (Eq.refl 83) fg_X8_17 rfl rfl (rX8_4 hR) ?_
                refine Ev.iconst dX8_takesFixed_83 (Eq.refl 84) ?_
                refine Ev.iload_n dX8_takesFixed_84 (Eq.refl 85) rfl ?_
                refine Ev.iadd dX8_takesFixed_85 (Eq.refl 86) ?_
                refine Ev.iconst dX8_takesFixed_86 (Eq.refl 87) ?_
                refine Ev.iastore dX8_takesFixed_87 (Eq.refl 88) rfl rfl (by omega) (by decide) (show ((4 : Int) + (J : Int)).toNat = 4 + J by omega) ?_
                refine Ev.aload_n dX8_takesFixed_88 (Eq.refl 89) rfl ?_
                refine Ev.getR dX8_takesFixed_89 (Eq.refl 92) fg_X8_17 rfl rfl (rX8_4 hR) ?_
                refine Ev.bipush dX8_takesFixed_92 (Eq.refl 94) (by decide) ?_
                refine Ev.iload_n dX8_takesFixed_94 (Eq.refl 95) rfl ?_
                refine Ev.iadd dX8_takesFixed_95 (Eq.refl 96) ?_
                refine Ev.iconst dX8_takesFixed_96 (Eq.refl 97) ?_
                refine Ev.iastore dX8_takesFixed_97 (Eq.refl 98) rfl rfl (by omega) (by decide) (show ((44 : Int) + (J : Int)).toNat = 44 + J by omega) ?_
                refine Ev.iconst dX8_takesFixed_98 (Eq.refl 99) ?_
                refine Ev.is2 dX8_takesFixed_99 (Eq.refl 100) (by decide) rfl ?_
                first | omega | exact LOOP okf _ 0 _ rfl (by omega) hR (((mz.w (by omega)).w (by omega)).w (by omega)) (by rw [hI_ni (by omega), hI_ni (by omega), hI_eq]) (by rw [hI_ni (by omega), hI_ni (by omega), hI_nk (by omega)]; exact g8) (by rw [hI_nk (by omega), hI_nk (by omega), hI_ni (by omega)]; exact d0) (by rw [hI_nk (by omega), hI_eq]) hI_eq (fun i hi => by omega) (fun i hi => by rw [hI_ni (by omega), hI_ni (by omega), hI_ni (by omega)]; exact (hn i hi).1) (fun i a b c => by rw [hI_nk b, hI_nk a, hI_ni (by omega)]; exact g3 i)
            · have okf : okFix (gV (h.1 3)) (r.1.getD 0 0) (r.1.getD 1 0) (r.1.getD 2 0) := ⟨by rw [hJJ]; omega, by omega, by omega, by omega⟩
              refine Ev.iconst dX8_takesFixed_57 (Eq.refl 58) ?_
              refine Ev.goto' (pc' := 62) dX8_takesFixed_58 (by decide) ?_
              refine Ev.putI dX8_takesFixed_62 (Eq.refl 65) fp_X8_83 rfl rfl (Or.inr ⟨rfl, by omega⟩) ?_
              refine Ev.aload_n dX8_takesFixed_65 (Eq.refl 66) rfl ?_
              refine Ev.getI dX8_takesFixed_66 (Eq.refl 69) fg_X8_83 rfl rfl ?_
              rw [hI_eq]
              refine Ev.if_eq (tgt := 140) dX8_takesFixed_69 (Eq.refl 72) (by decide) ⟨by omega, by omega⟩ (fun c69 => ?_) (fun c69 => ?_)
              · exact Ev.vret dX8_takesFixed_140 rfl ((by first | exact ⟨rfl, tk_n (mz.w (by omega)) e hI_eq⟩ | omega))
              · refine Ev.aload_n dX8_takesFixed_72 (Eq.refl 73) rfl ?_
                refine Ev.getR dX8_takesFixed_73 (Eq.refl 76) fg_X8_17 rfl rfl (rX8_4 hR) ?_
                refine Ev.iconst dX8_takesFixed_76 (Eq.refl 77) ?_
                refine Ev.iaload dX8_takesFixed_77 (Eq.refl 78) rfl rfl (by omega) (by decide) (show (0 : Int).toNat = 0 from rfl) ?_
                rw [hI_ni (by omega), d0]
                refine Ev.is1 dX8_takesFixed_78 (Eq.refl 79) (by decide) rfl ?_
                refine Ev.aload_n dX8_takesFixed_79 (Eq.refl 80) rfl ?_
                refine Ev.getR dX8_takesFixed_80 (Eq.refl 83) fg_X8_17 rfl rfl (rX8_4 hR) ?_
                refine Ev.iconst dX8_takesFixed_83 (Eq.refl 84) ?_
                refine Ev.iload_n dX8_takesFixed_84 (Eq.refl 85) rfl ?_
                refine Ev.iadd dX8_takesFixed_85 (Eq.refl 86) ?_
                refine Ev.iconst dX8_takesFixed_86 (Eq.refl 87) ?_
                refine Ev.iastore dX8_takesFixed_87 (Eq.refl 88) rfl rfl (by omega) (by decide) (show ((4 : Int) + (J : Int)).toNat = 4 + J by omega) ?_
                refine Ev.aload_n dX8_takesFixed_88 (Eq.refl 89) rfl ?_
                refine Ev.getR dX8_takesFixed_89 (Eq.refl 92) fg_X8_17 rfl rfl (rX8_4 hR) ?_
                refine Ev.bipush dX8_takesFixed_92 (Eq.refl 94) (by decide) ?_
                refine Ev.iload_n dX8_takesFixed_94 (Eq.refl 95) rfl ?_
                refine Ev.iadd dX8_takesFixed_95 (Eq.refl 96) ?_
                refine Ev.iconst dX8_takesFixed_96 (Eq.refl 97) ?_
                refine Ev.iastore dX8_takesFixed_97 (Eq.refl 98) rfl rfl (by omega) (by decide) (show ((44 : Int) + (J : Int)).toNat = 44 + J by omega) ?_
                refine Ev.iconst dX8_takesFixed_98 (Eq.refl 99) ?_
                refine Ev.is2 dX8_takesFixed_99 (Eq.refl 100) (by decide) rfl ?_
                first | omega | exact LOOP okf _ 0 _ rfl (by omega) hR (((mz.w (by omega)).w (by omega)).w (by omega)) (by rw [hI_ni (by omega), hI_ni (by omega), hI_eq]) (by rw [hI_ni (by omega), hI_ni (by omega), hI_nk (by omega)]; exact g8) (by rw [hI_nk (by omega), hI_nk (by omega), hI_ni (by omega)]; exact d0) (by rw [hI_nk (by omega), hI_eq]) hI_eq (fun i hi => by omega) (fun i hi => by rw [hI_ni (by omega), hI_ni (by omega), hI_ni (by omega)]; exact (hn i hi).1) (fun i a b c => by rw [hI_nk b, hI_nk a, hI_ni (by omega)]; exact g3 i)
  refine Ev.aload_n dX8_takesFixed_0 (Eq.refl 1) rfl ?_
  refine Ev.iconst dX8_takesFixed_1 (Eq.refl 2) ?_
  refine Ev.cv1V dX8_takesFixed_2 (Eq.refl 5) cw_X8_99 (Nat.le_of_ble_eq_true rfl) (by decide) rfl rfl rfl (Nat.le_of_ble_eq_true rfl) (m_takesNumbers (m := 3) hR hT h8 h9 hp hb (by omega)) (fun g2 hp2 => ?_)
  obtain ⟨p', b', y1, y2, y3, y4, y5, y6, y7⟩ := hp2
  have y7 := y7 rfl
  rw [show cont t L 3 0 p = pNs t L 3 p from rfl] at y7
  have hR : MOk g2.2.2 := by rw [y1.1]; exact hR
  have e3 : ∀ j, g2.1 3 j = h.1 3 j := fun j => y1.2.1 _ _ (by omega) (by omega)
  cases hpn : pNs t L 3 p with
  | none => rw [hpn] at y7; exact TN _ hR y1.z (y1.2.2.2.trans y7) (resI_n (c := 102) hpn)
  | some r => rw [hpn] at y7; exact TS _ p' r hR y1.z e3 (y1.2.2.2.trans y7.1) y1.2.2.1 hpn y7.2.1 ⟨y2, y3⟩ (fun i hi => by have := y7.2.2 i (by omega); rw [Nat.zero_add] at this; exact this)
