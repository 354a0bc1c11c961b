/-! The model: takesStrand -/
theorem gStr {f g : Nat → Int} {a b : Nat} {q w : Int} (k : GOk f) (hk : okStr (gV f) a b q w) (hw : 0 ≤ w) (e1 : g 1 = f 1 + 1) (xa : g (54 + 5 * vS (gV f)) = (a : Int)) (xb : g (54 + 5 * vS (gV f) + 1) = (b : Int)) (xq : g (54 + 5 * vS (gV f) + 2) = q) (xw : g (54 + 5 * vS (gV f) + 3) = w) (xd : g (54 + 5 * vS (gV f) + 4) = 0) (e : ∀ i, i ≠ 1 → (i < 54 + 5 * vS (gV f) ∨ 54 + 5 * vS (gV f) + 4 < i) → g i = f i) : gV g = vStr (gV f) a b q w ∧ GOk g := by
  have eS := gS k
  have bS := k.2.1
  have eJ := gJ k
  have hS : vS (gV f) < 14 := hk.1
  have hFv := VOk_str k.2.2.2.2 hk hw
  have ha : (a : Int) < vJ (gV f) := hk.2.1
  have hb : (b : Int) < vJ (gV f) := hk.2.2.1
  generalize hSS : vS (gV f) = S at *
  have hSS2 : (f 1).toNat = S := hSS
  have a0 : g 0 = f 0 := e 0 (by omega) (by omega)
  have a2 : g 2 = f 2 := e 2 (by omega) (by omega)
  have a3 : g 3 = f 3 := e 3 (by omega) (by omega)
  have ej : ∀ j : Nat, 2 ≤ j → j < 54 → g j = f j := fun j h1 h2 => e _ (by omega) (by omega)
  have es : ∀ s i : Nat, s < S → i < 5 → g (54 + 5 * s + i) = f (54 + 5 * s + i) := fun s i hs hi => e _ (by omega) (by omega)
  have bJ := k.1
  have hV : gV g = vStr (gV f) a b q w := by
    refine nv_ext ?_ ?_ (fun j => ?_) (fun j a => ?_) (fun j => ?_) (fun s => ?_) (fun s => ?_) (fun s => ?_) (fun s => ?_) (fun s => ?_) a2 a3
    · show (g 0).toNat = (f 0).toNat; rw [a0]
    · show (g 1).toNat = (f 1).toNat + 1; omega
    · show decide ((j : Int) < g 0 ∧ g (4 + j) = 1) = decide ((j : Int) < f 0 ∧ f (4 + j) = 1)
      rw [a0]
      by_cases l : (j : Int) < f 0
      · rw [ej (4 + j) (by omega) (by omega)]
      · rw [decide_eq_false (fun z => l z.1), decide_eq_false (fun z => l z.1)]
    · show (if (j : Int) < g 0 ∧ ¬ g (4 + j) = 1 ∧ a < 3 then g (14 + 3 * j + a) else 0) = if (j : Int) < f 0 ∧ ¬ f (4 + j) = 1 ∧ a < 3 then f (14 + 3 * j + a) else 0
      rw [a0]
      by_cases l : (j : Int) < f 0 ∧ a < 3
      · rw [ej (4 + j) (by omega) (by omega), ej (14 + 3 * j + a) (by omega) (by omega)]
      · rw [if_neg (fun z => l ⟨z.1, z.2.2⟩), if_neg (fun z => l ⟨z.1, z.2.2⟩)]
    · show (if (j : Int) < g 0 then g (44 + j) else 0) = if (j : Int) < f 0 then f (44 + j) else 0
      rw [a0]
      by_cases l : (j : Int) < f 0
      · rw [ej (44 + j) (by omega) (by omega)]
      · rw [if_neg l, if_neg l]
    · show (if (s : Int) < g 1 then (g (54 + 5 * s)).toNat else 0) = if s = (f 1).toNat then a else if (s : Int) < f 1 then (f (54 + 5 * s)).toNat else 0
      have q0 := es s 0
      rw [Nat.add_zero] at q0
      clear e ej es
      grind
    · show (if (s : Int) < g 1 then (g (54 + 5 * s + 1)).toNat else 0) = if s = (f 1).toNat then b else if (s : Int) < f 1 then (f (54 + 5 * s + 1)).toNat else 0
      have q0 := es s 1
      clear e ej es
      grind
    · show (if (s : Int) < g 1 then g (54 + 5 * s + 2) else 0) = if s = (f 1).toNat then q else if (s : Int) < f 1 then f (54 + 5 * s + 2) else 0
      have q0 := es s 2
      clear e ej es
      grind
    · show (if (s : Int) < g 1 then g (54 + 5 * s + 3) else 0) = if s = (f 1).toNat then w else if (s : Int) < f 1 then f (54 + 5 * s + 3) else 0
      have q0 := es s 3
      clear e ej es
      grind
    · show decide ((s : Int) < g 1 ∧ g (54 + 5 * s + 4) = 0) = if s = (f 1).toNat then true else decide ((s : Int) < f 1 ∧ f (54 + 5 * s + 4) = 0)
      have q0 := es s 4
      clear e ej es
      grind
  refine ⟨hV, by rw [a0]; exact k.1, by omega, fun j hj => ?_, fun s hs => ?_, by rw [hV]; exact hFv⟩
  · rw [ej (4 + j) (by omega) (by omega)]; exact k.2.2.1 j (by omega)
  · by_cases l : s = S
    · subst l
      rw [xa, xb, xd, a0]
      exact ⟨⟨by omega, by omega⟩, ⟨by omega, by omega⟩, Or.inl rfl⟩
    · have q0 := es s 0 (by omega) (by omega)
      rw [Nat.add_zero] at q0
      rw [q0, es s 1 (by omega) (by omega), es s 4 (by omega) (by omega), a0]
      exact k.2.2.2.1 s (by omega)
theorem m_takesStrand {h : Hp} {t : Nat → Int} {L p : Nat} (hR : MOk h.2.2) (hT : MT h t L) (h8 : h.1 0 8 = (p : Int)) (h9 : h.1 0 9 = 1) (hp : p ≤ L) (ok : GOk (h.1 3)) : Ev mX8_takesStrand 4 0 (entL [.ref 0] 4) [] h (PV (fun h' => tkP t L 115 p (gV (h.1 3)) h h')) := by
  show Ev mX8_takesStrand 4 0 [some (.ref 0), none, none, none] [] h _
  have hb : (0 : Int) ≤ 1 ∧ (1 : Int) ≤ 1 := by omega
  have bJ := ok.1
  have eJ := gJ ok
  have bS := ok.2.1
  have eS := gS ok
  have i1 : I32 1 := ⟨by omega, by omega⟩
  have i5 : I32 5 := ⟨by omega, by omega⟩
  have TN : ∀ g, MOk g.2.2 → Mz h g → g.1 0 9 = 0 → resI t L 115 p (gV (h.1 3)) = none → Ev mX8_takesStrand 4 5 [some (.ref 0), none, none, none] [] g (PV (fun h' => tkP t L 115 p (gV (h.1 3)) h h')) := by
    intro g hR mz g9 e
    have h9' := g9
    refine Ev.aload_n dX8_takesStrand_5 (Eq.refl 6) rfl ?_
    refine Ev.getR dX8_takesStrand_6 (Eq.refl 9) fg_X8_26 rfl rfl (rX8_10 hR) ?_
    refine Ev.iconst dX8_takesStrand_9 (Eq.refl 10) ?_
    refine Ev.iaload dX8_takesStrand_10 (Eq.refl 11) rfl rfl (by omega) (by decide) (show (0 : Int).toNat = 0 from rfl) ?_
    refine Ev.is1 dX8_takesStrand_11 (Eq.refl 12) (by decide) rfl ?_
    refine Ev.aload_n dX8_takesStrand_12 (Eq.refl 13) rfl ?_
    refine Ev.getR dX8_takesStrand_13 (Eq.refl 16) fg_X8_26 rfl rfl (rX8_10 hR) ?_
    refine Ev.iconst dX8_takesStrand_16 (Eq.refl 17) ?_
    refine Ev.iaload dX8_takesStrand_17 (Eq.refl 18) rfl rfl (by omega) (by decide) (show (1 : Int).toNat = 1 from rfl) ?_
    refine Ev.is2 dX8_takesStrand_18 (Eq.refl 19) (by decide) rfl ?_
    refine Ev.aload_n dX8_takesStrand_19 (Eq.refl 20) rfl ?_
    refine Ev.aload_n dX8_takesStrand_20 (Eq.refl 21) rfl ?_
    refine Ev.getI dX8_takesStrand_21 (Eq.refl 24) fg_X8_83 rfl rfl ?_
    rw [g9]
    refine Ev.if_eq (tgt := 81) dX8_takesStrand_24 (Eq.refl 27) (by decide) ⟨by omega, by omega⟩ (fun c24 => ?_) (fun c24 => ?_)
    · refine Ev.iconst dX8_takesStrand_81 (Eq.refl 82) ?_
      refine Ev.putI dX8_takesStrand_82 (Eq.refl 85) fp_X8_83 rfl rfl (Or.inr ⟨rfl, by omega⟩) ?_
      refine Ev.aload_n dX8_takesStrand_85 (Eq.refl 86) rfl ?_
      refine Ev.aload_n dX8_takesStrand_86 (Eq.refl 87) rfl ?_
      refine Ev.getI dX8_takesStrand_87 (Eq.refl 90) fg_X8_83 rfl rfl ?_
      rw [hI_eq]
      refine Ev.if_eq (tgt := 122) dX8_takesStrand_90 (Eq.refl 93) (by decide) ⟨by omega, by omega⟩ (fun c90 => ?_) (fun c90 => ?_)
      · refine Ev.iconst dX8_takesStrand_122 (Eq.refl 123) ?_
        refine Ev.putI dX8_takesStrand_123 (Eq.refl 126) fp_X8_83 rfl rfl (Or.inr ⟨rfl, by omega⟩) ?_
        refine Ev.aload_n dX8_takesStrand_126 (Eq.refl 127) rfl ?_
        refine Ev.getI dX8_takesStrand_127 (Eq.refl 130) fg_X8_83 rfl rfl ?_
        rw [hI_eq]
        refine Ev.if_eq (tgt := 199) dX8_takesStrand_130 (Eq.refl 133) (by decide) ⟨by omega, by omega⟩ (fun c130 => ?_) (fun c130 => ?_)
        · exact Ev.vret dX8_takesStrand_199 rfl (⟨rfl, tk_n ((mz.w (by omega)).w (by omega)) e hI_eq⟩)
        · omega
      · omega
    · omega
  have TS : ∀ (g : Hp) (p' : Nat) (r : List Int × Nat), MOk g.2.2 → Mz h g → (∀ j, g.1 3 j = h.1 3 j) → g.1 0 9 = 1 → g.1 0 8 = (p' : Int) → pNs t L 4 p = some r → p' = r.2 → p ≤ p' ∧ p' ≤ L → (∀ i, i < 4 → g.1 6 i = r.1.getD i 0 ∧ 0 ≤ r.1.getD i 0 ∧ r.1.getD i 0 ≤ 99) → Ev mX8_takesStrand 4 5 [some (.ref 0), none, none, none] [] g (PV (fun h' => tkP t L 115 p (gV (h.1 3)) h h')) := by
    intro g p' r hR mz g3 g9 g8 hr ep hpp hn
    subst ep
    have n0 := hn 0 (by omega)
    have n1 := hn 1 (by omega)
    have n2 := hn 2 (by omega)
    have n3 := hn 3 (by omega)
    have ei : item 115 (fun i => r.1.getD i 0) (gV (h.1 3)) = cif (okStr (gV (h.1 3)) (r.1.getD 0 0) (r.1.getD 1 0) (r.1.getD 2 0) (r.1.getD 3 0)) (some (vStr (gV (h.1 3)) (r.1.getD 0 0).toNat (r.1.getD 1 0).toNat (r.1.getD 2 0) (r.1.getD 3 0))) none := rfl
    have er := resI_e (t := t) (L := L) (c := 115) (p := p) (v := gV (h.1 3)) (r := r) hr
    have n6 : ∀ i, i < 4 → g.1 6 i = r.1.getD i 0 := fun i hi => (hn i hi).1
    obtain ⟨a, ea⟩ := Int.eq_ofNat_of_zero_le n0.2.1
    obtain ⟨b, eb⟩ := Int.eq_ofNat_of_zero_le n1.2.1
    rw [ea, eb] at ei
    have rn : ¬ okStr (gV (h.1 3)) a b (r.1.getD 2 0) (r.1.getD 3 0) → resI t L 115 p (gV (h.1 3)) = none := fun z => by rw [er, ei, cif_f z]
    have rs : okStr (gV (h.1 3)) a b (r.1.getD 2 0) (r.1.getD 3 0) → resI t L 115 p (gV (h.1 3)) = some (r.2, vStr (gV (h.1 3)) a b (r.1.getD 2 0) (r.1.getD 3 0)) := fun z => by rw [er, ei, cif_t z]; rfl
    have d0 : g.1 3 0 = (vJ (gV (h.1 3)) : Int) := (g3 0).trans eJ
    have d1 : g.1 3 1 = (vS (gV (h.1 3)) : Int) := (g3 1).trans eS
    have iq : I32 (r.1.getD 2 0) := ⟨by omega, by omega⟩
    have e3 : ∀ x, (hI g 0 9 x).1 3 = h.1 3 := fun x => funext fun j => by rw [hI_ni (by omega)]; exact g3 j
    have hasR : ∀ (x : Int) (j : Nat), j < vJ (gV (h.1 3)) → Ev mX8_hasRoom 0 0 (entL [.ref 0, iv (j : Int)] 4) [] (hI g 0 9 x) (PE (bi (¬ vFull (gV (h.1 3)) j)) (hI g 0 9 x)) := fun x j hj => by
      have := m_hasRoom (h := hI g 0 9 x) (j := j) hR (by rw [e3]; exact ok) (by rw [e3]; exact hj)
      rw [e3] at this; exact this
    have tieR : ∀ (x : Int), a ≠ b → Ev mX8_isTied 0 0 (entL [.ref 0, iv (a : Int), iv (b : Int)] 7) [] (hI g 0 9 x) (PE (bi (vTied (gV (h.1 3)) a b)) (hI g 0 9 x)) := fun x hab => by
      have := m_isTied (h := hI g 0 9 x) (a := a) (b := b) hR (by rw [e3]; exact ok) (by omega) (by omega) hab
      rw [e3] at this; exact this
    generalize hSS : vS (gV (h.1 3)) = S at *
    have LOOP : okStr (gV (h.1 3)) a b (r.1.getD 2 0) (r.1.getD 3 0) → ∀ (m k : Nat) (f : Hp), 4 - k = m → k ≤ 4 → MOk f.2.2 → Mz h f → f.1 0 9 = 1 → f.1 0 8 = (r.2 : Int) → f.1 3 1 = (S : Int) → (∀ i, i < k → f.1 3 (54 + 5 * S + i) = r.1.getD i 0) → (∀ i, i < 4 → f.1 6 i = r.1.getD i 0) → (∀ i, (i < 54 + 5 * S ∨ 54 + 5 * S + 4 < i) → f.1 3 i = h.1 3 i) → Ev mX8_takesStrand 4 135 [some (.ref 0), some (iv (a : Int)), some (iv (b : Int)), some (iv (k : Int))] [] f (PV (fun h' => tkP t L 115 p (gV (h.1 3)) h h')) := by
      intro okf m
      have S14 : S < 14 := by rw [← hSS]; exact okf.1
      induction m using Nat.strongRecOn with
      | ind m ih =>
        intro k f hm hk hR mz f9 f8 f1 fx f6 fo
        by_cases k4 : k < 4
        · have q1 : ((54 : Int) + 5 * (S : Int) + (k : Int)).toNat = 54 + 5 * S + k := by omega
          refine Ev.iload_n dX8_takesStrand_135 (Eq.refl 136) rfl ?_
          refine Ev.iconst dX8_takesStrand_136 (Eq.refl 137) ?_
          refine Ev.icmp_ge (tgt := 170) dX8_takesStrand_137 (Eq.refl 140) (by decide) ⟨by omega, by omega⟩ ⟨by omega, by omega⟩ (fun c137 => ?_) (fun c137 => ?_)
          · omega
          · refine Ev.aload_n dX8_takesStrand_140 (Eq.refl 141) rfl ?_
            refine Ev.getR dX8_takesStrand_141 (Eq.refl 144) fg_X8_17 rfl rfl (rX8_4 hR) ?_
            refine Ev.bipush dX8_takesStrand_144 (Eq.refl 146) (by decide) ?_
            refine Ev.iconst dX8_takesStrand_146 (Eq.refl 147) ?_
            refine Ev.aload_n dX8_takesStrand_147 (Eq.refl 148) rfl ?_
            refine Ev.getR dX8_takesStrand_148 (Eq.refl 151) fg_X8_17 rfl rfl (rX8_4 hR) ?_
            refine Ev.iconst dX8_takesStrand_151 (Eq.refl 152) ?_
            refine Ev.iaload dX8_takesStrand_152 (Eq.refl 153) rfl rfl (by omega) (by decide) (show (1 : Int).toNat = 1 from rfl) ?_
            rw [f1]
            refine Ev.imul dX8_takesStrand_153 (Eq.refl 154) ?_
            refine Ev.iadd dX8_takesStrand_154 (Eq.refl 155) ?_
            refine Ev.iload_n dX8_takesStrand_155 (Eq.refl 156) rfl ?_
            refine Ev.iadd dX8_takesStrand_156 (Eq.refl 157) ?_
            refine Ev.aload_n dX8_takesStrand_157 (Eq.refl 158) rfl ?_
            refine Ev.getR dX8_takesStrand_158 (Eq.refl 161) fg_X8_26 rfl rfl (rX8_10 hR) ?_
            refine Ev.iload_n dX8_takesStrand_161 (Eq.refl 162) rfl ?_
            refine Ev.iaload dX8_takesStrand_162 (Eq.refl 163) rfl rfl (by omega) (by decide) (by first | with_reducible exact Int.toNat_natCast _ | exact Eq.refl _) ?_
            rw [f6 k k4]
            refine Ev.iastore dX8_takesStrand_163 (Eq.refl 164) rfl rfl (by omega) (by decide) q1 ?_
            refine Ev.ii3 dX8_takesStrand_164 (Eq.refl 167) (by decide) rfl ?_
            refine Ev.goto' (pc' := 135) dX8_takesStrand_167 (by decide) ?_
            exact ih _ (by omega) (k + 1) _ rfl (by omega) hR (mz.w (by omega)) (by rw [hI_ni (by omega)]; exact f9) (by rw [hI_ni (by omega)]; exact f8) (by rw [hI_nk (by omega)]; exact f1) (fun i hi => if e : i = k then by rw [e, hI_eq] else by rw [hI_nk (by omega)]; exact fx i (by omega)) (fun i hi => by rw [hI_ni (by omega)]; exact f6 i hi) (fun i c => by rw [hI_nk (by omega)]; exact fo i c)
        · have x0 := fx 0 (by omega)
          have x1 := fx 1 (by omega)
          have x2 := fx 2 (by omega)
          have x3 := fx 3 (by omega)
          have q1 : ((54 : Int) + 5 * (S : Int) + 4).toNat = 54 + 5 * S + 4 := by omega
          refine Ev.iload_n dX8_takesStrand_135 (Eq.refl 136) rfl ?_
          refine Ev.iconst dX8_takesStrand_136 (Eq.refl 137) ?_
          refine Ev.icmp_ge (tgt := 170) dX8_takesStrand_137 (Eq.refl 140) (by decide) ⟨by omega, by omega⟩ ⟨by omega, by omega⟩ (fun c137 => ?_) (fun c137 => ?_)
          · refine Ev.aload_n dX8_takesStrand_170 (Eq.refl 171) rfl ?_
            refine Ev.getR dX8_takesStrand_171 (Eq.refl 174) fg_X8_17 rfl rfl (rX8_4 hR) ?_
            refine Ev.bipush dX8_takesStrand_174 (Eq.refl 176) (by decide) ?_
            refine Ev.iconst dX8_takesStrand_176 (Eq.refl 177) ?_
            refine Ev.aload_n dX8_takesStrand_177 (Eq.refl 178) rfl ?_
            refine Ev.getR dX8_takesStrand_178 (Eq.refl 181) fg_X8_17 rfl rfl (rX8_4 hR) ?_
            refine Ev.iconst dX8_takesStrand_181 (Eq.refl 182) ?_
            refine Ev.iaload dX8_takesStrand_182 (Eq.refl 183) rfl rfl (by omega) (by decide) (show (1 : Int).toNat = 1 from rfl) ?_
            rw [f1]
            refine Ev.imul dX8_takesStrand_183 (Eq.refl 184) ?_
            refine Ev.iadd dX8_takesStrand_184 (Eq.refl 185) ?_
            refine Ev.iconst dX8_takesStrand_185 (Eq.refl 186) ?_
            refine Ev.iadd dX8_takesStrand_186 (Eq.refl 187) ?_
            refine Ev.iconst dX8_takesStrand_187 (Eq.refl 188) ?_
            refine Ev.iastore dX8_takesStrand_188 (Eq.refl 189) rfl rfl (by omega) (by decide) q1 ?_
            refine Ev.aload_n dX8_takesStrand_189 (Eq.refl 190) rfl ?_
            refine Ev.getR dX8_takesStrand_190 (Eq.refl 193) fg_X8_17 rfl rfl (rX8_4 hR) ?_
            refine Ev.iconst dX8_takesStrand_193 (Eq.refl 194) ?_
            refine Ev.dup2 dX8_takesStrand_194 (Eq.refl 195) rfl rfl ?_
            refine Ev.iaload dX8_takesStrand_195 (Eq.refl 196) rfl rfl (by omega) (by decide) (show (1 : Int).toNat = 1 from rfl) ?_
            rw [hI_nk (by omega), f1]
            refine Ev.iconst dX8_takesStrand_196 (Eq.refl 197) ?_
            refine Ev.iadd dX8_takesStrand_197 (Eq.refl 198) ?_
            refine Ev.iastore dX8_takesStrand_198 (Eq.refl 199) rfl rfl (by omega) (by decide) (show (1 : Int).toNat = 1 from rfl) ?_
            exact Ev.vret dX8_takesStrand_199 rfl (⟨rfl, tk_s ((mz.w (by omega)).w (by omega)) (rs okf) (by rw [hI_ni (by omega), hI_ni (by omega)]; exact f9) (by rw [hI_ni (by omega), hI_ni (by omega)]; exact f8) hpp (gStr ok okf n3.2.1 (by rw [hI_eq, eS]) (by rw [hSS, hI_nk (by omega), hI_nk (by omega)]; exact x0.trans ea) (by rw [hSS, hI_nk (by omega), hI_nk (by omega)]; exact x1.trans eb) (by rw [hSS, hI_nk (by omega), hI_nk (by omega)]; exact x2) (by rw [hSS, hI_nk (by omega), hI_nk (by omega)]; exact x3) (by rw [hSS, hI_nk (by omega), hI_eq]) (fun i z1 z2 => by rw [hSS] at z2; rw [hI_nk z1, hI_nk (by omega)]; exact fo i z2))⟩)
          · omega
    refine Ev.aload_n dX8_takesStrand_5 (Eq.refl 6) rfl ?_
    refine Ev.getR dX8_takesStrand_6 (Eq.refl 9) fg_X8_26 rfl rfl (rX8_10 hR) ?_
    refine Ev.iconst dX8_takesStrand_9 (Eq.refl 10) ?_
    refine Ev.iaload dX8_takesStrand_10 (Eq.refl 11) rfl rfl (by omega) (by decide) (show (0 : Int).toNat = 0 from rfl) ?_
    rw [n0.1, ea]
    refine Ev.is1 dX8_takesStrand_11 (Eq.refl 12) (by decide) rfl ?_
    refine Ev.aload_n dX8_takesStrand_12 (Eq.refl 13) rfl ?_
    refine Ev.getR dX8_takesStrand_13 (Eq.refl 16) fg_X8_26 rfl rfl (rX8_10 hR) ?_
    refine Ev.iconst dX8_takesStrand_16 (Eq.refl 17) ?_
    refine Ev.iaload dX8_takesStrand_17 (Eq.refl 18) rfl rfl (by omega) (by decide) (show (1 : Int).toNat = 1 from rfl) ?_
    rw [n1.1, eb]
    refine Ev.is2 dX8_takesStrand_18 (Eq.refl 19) (by decide) rfl ?_
    refine Ev.aload_n dX8_takesStrand_19 (Eq.refl 20) rfl ?_
    refine Ev.aload_n dX8_takesStrand_20 (Eq.refl 21) rfl ?_
    refine Ev.getI dX8_takesStrand_21 (Eq.refl 24) fg_X8_83 rfl rfl ?_
    rw [g9]
    refine Ev.if_eq (tgt := 81) dX8_takesStrand_24 (Eq.refl 27) (by decide) ⟨by omega, by omega⟩ (fun c24 => ?_) (fun c24 => ?_)
    · omega
    · refine Ev.aload_n dX8_takesStrand_27 (Eq.refl 28) rfl ?_
      refine Ev.getR dX8_takesStrand_28 (Eq.refl 31) fg_X8_17 rfl rfl (rX8_4 hR) ?_
      refine Ev.iconst dX8_takesStrand_31 (Eq.refl 32) ?_
      refine Ev.iaload dX8_takesStrand_32 (Eq.refl 33) rfl rfl (by omega) (by decide) (show (1 : Int).toNat = 1 from rfl) ?_
      rw [d1]
      refine Ev.bipush dX8_takesStrand_33 (Eq.refl 35) (by decide) ?_
      refine Ev.icmp_ge (tgt := 81) dX8_takesStrand_35 (Eq.refl 38) (by decide) ⟨by omega, by omega⟩ ⟨by omega, by omega⟩ (fun c35 => ?_) (fun c35 => ?_)
      · have e := rn (fun z => by have := z.1; rw [hSS] at this; omega)
        refine Ev.iconst dX8_takesStrand_81 (Eq.refl 82) ?_
        refine Ev.putI dX8_takesStrand_82 (Eq.refl 85) fp_X8_83 rfl rfl (Or.inr ⟨rfl, by omega⟩) ?_
        refine Ev.aload_n dX8_takesStrand_85 (Eq.refl 86) rfl ?_
        refine Ev.aload_n dX8_takesStrand_86 (Eq.refl 87) rfl ?_
        refine Ev.getI dX8_takesStrand_87 (Eq.refl 90) fg_X8_83 rfl rfl ?_
        rw [hI_eq]
        refine Ev.if_eq (tgt := 122) dX8_takesStrand_90 (Eq.refl 93) (by decide) ⟨by omega, by omega⟩ (fun c90 => ?_) (fun c90 => ?_)
        · refine Ev.iconst dX8_takesStrand_122 (Eq.refl 123) ?_
          refine Ev.putI dX8_takesStrand_123 (Eq.refl 126) fp_X8_83 rfl rfl (Or.inr ⟨rfl, by omega⟩) ?_
          refine Ev.aload_n dX8_takesStrand_126 (Eq.refl 127) rfl ?_
          refine Ev.getI dX8_takesStrand_127 (Eq.refl 130) fg_X8_83 rfl rfl ?_
          rw [hI_eq]
          refine Ev.if_eq (tgt := 199) dX8_takesStrand_130 (Eq.refl 133) (by decide) ⟨by omega, by omega⟩ (fun c130 => ?_) (fun c130 => ?_)
          · exact Ev.vret dX8_takesStrand_199 rfl ((by first | exact ⟨rfl, tk_n ((mz.w (by omega)).w (by omega)) e hI_eq⟩ | omega))
          · refine Ev.iconst dX8_takesStrand_133 (Eq.refl 134) ?_
            refine Ev.is3 dX8_takesStrand_134 (Eq.refl 135) (by decide) rfl ?_
            first | omega | exact LOOP ⟨by rw [hSS]; omega, by omega, by omega, c60, c74, by omega, c115, c98, c106⟩ _ 0 _ rfl (by omega) hR ((mz.w (by omega)).w (by omega)) hI_eq (by rw [hI_nk (by omega), hI_nk (by omega)]; exact g8) (by rw [hI_ni (by omega), hI_ni (by omega)]; exact d1) (fun i hi => by omega) (fun i hi => by rw [hI_ni (by omega), hI_ni (by omega)]; exact n6 i hi) (fun i c => by rw [hI_ni (by omega), hI_ni (by omega)]; exact g3 i)
        · refine Ev.aload_n dX8_takesStrand_93 (Eq.refl 94) rfl ?_
          refine Ev.iload_n dX8_takesStrand_94 (Eq.refl 95) rfl ?_
          refine Ev.cv1E dX8_takesStrand_95 (Eq.refl 98) cw_X8_106 (Nat.le_of_ble_eq_true rfl) (by decide) rfl rfl rfl (Nat.le_of_ble_eq_true rfl) (hasR _ a (by omega)) ?_
          refine Ev.if_eqB (tgt := 122) dX8_takesStrand_98 (Eq.refl 101) (by decide) (fun c98 => ?_) (fun c98 => ?_)
          · have e := rn (fun z => c98 z.2.2.2.2.2.2.2.1)
            refine Ev.iconst dX8_takesStrand_122 (Eq.refl 123) ?_
            refine Ev.putI dX8_takesStrand_123 (Eq.refl 126) fp_X8_83 rfl rfl (Or.inr ⟨rfl, by omega⟩) ?_
            refine Ev.aload_n dX8_takesStrand_126 (Eq.refl 127) rfl ?_
            refine Ev.getI dX8_takesStrand_127 (Eq.refl 130) fg_X8_83 rfl rfl ?_
            rw [hI_eq]
            refine Ev.if_eq (tgt := 199) dX8_takesStrand_130 (Eq.refl 133) (by decide) ⟨by omega, by omega⟩ (fun c130 => ?_) (fun c130 => ?_)
            · exact Ev.vret dX8_takesStrand_199 rfl ((by first | exact ⟨rfl, tk_n ((mz.w (by omega)).w (by omega)) e hI_eq⟩ | omega))
            · refine Ev.iconst dX8_takesStrand_133 (Eq.refl 134) ?_
              refine Ev.is3 dX8_takesStrand_134 (Eq.refl 135) (by decide) rfl ?_
              first | omega | exact LOOP ⟨by rw [hSS]; omega, by omega, by omega, c60, c74, by omega, c115, c98, c106⟩ _ 0 _ rfl (by omega) hR ((mz.w (by omega)).w (by omega)) hI_eq (by rw [hI_nk (by omega), hI_nk (by omega)]; exact g8) (by rw [hI_ni (by omega), hI_ni (by omega)]; exact d1) (fun i hi => by omega) (fun i hi => by rw [hI_ni (by omega), hI_ni (by omega)]; exact n6 i hi) (fun i c => by rw [hI_ni (by omega), hI_ni (by omega)]; exact g3 i)
          · refine Ev.aload_n dX8_takesStrand_101 (Eq.refl 102) rfl ?_
            refine Ev.iload_n dX8_takesStrand_102 (Eq.refl 103) rfl ?_
            refine Ev.cv1E dX8_takesStrand_103 (Eq.refl 106) cw_X8_106 (Nat.le_of_ble_eq_true rfl) (by decide) rfl rfl rfl (Nat.le_of_ble_eq_true rfl) (hasR _ b (by omega)) ?_
            refine Ev.if_eqB (tgt := 122) dX8_takesStrand_106 (Eq.refl 109) (by decide) (fun c106 => ?_) (fun c106 => ?_)
            · have e := rn (fun z => c106 z.2.2.2.2.2.2.2.2)
              refine Ev.iconst dX8_takesStrand_122 (Eq.refl 123) ?_
              refine Ev.putI dX8_takesStrand_123 (Eq.refl 126) fp_X8_83 rfl rfl (Or.inr ⟨rfl, by omega⟩) ?_
              refine Ev.aload_n dX8_takesStrand_126 (Eq.refl 127) rfl ?_
              refine Ev.getI dX8_takesStrand_127 (Eq.refl 130) fg_X8_83 rfl rfl ?_
              rw [hI_eq]
              refine Ev.if_eq (tgt := 199) dX8_takesStrand_130 (Eq.refl 133) (by decide) ⟨by omega, by omega⟩ (fun c130 => ?_) (fun c130 => ?_)
              · exact Ev.vret dX8_takesStrand_199 rfl ((by first | exact ⟨rfl, tk_n ((mz.w (by omega)).w (by omega)) e hI_eq⟩ | omega))
              · refine Ev.iconst dX8_takesStrand_133 (Eq.refl 134) ?_
                refine Ev.is3 dX8_takesStrand_134 (Eq.refl 135) (by decide) rfl ?_
                first | omega | exact LOOP ⟨by rw [hSS]; omega, by omega, by omega, c60, c74, by omega, c115, c98, c106⟩ _ 0 _ rfl (by omega) hR ((mz.w (by omega)).w (by omega)) hI_eq (by rw [hI_nk (by omega), hI_nk (by omega)]; exact g8) (by rw [hI_ni (by omega), hI_ni (by omega)]; exact d1) (fun i hi => by omega) (fun i hi => by rw [hI_ni (by omega), hI_ni (by omega)]; exact n6 i hi) (fun i c => by rw [hI_ni (by omega), hI_ni (by omega)]; exact g3 i)
            · refine Ev.aload_n dX8_takesStrand_109 (Eq.refl 110) rfl ?_
              refine Ev.iload_n dX8_takesStrand_110 (Eq.refl 111) rfl ?_
              refine Ev.iload_n dX8_takesStrand_111 (Eq.refl 112) rfl ?_
              refine Ev.cv2E dX8_takesStrand_112 (Eq.refl 115) cw_X8_109 (Nat.le_of_ble_eq_true rfl) (by decide) rfl rfl rfl (Nat.le_of_ble_eq_true rfl) (tieR _ (by omega)) ?_
              refine Ev.if_neB (tgt := 122) dX8_takesStrand_115 (Eq.refl 118) (by decide) (fun c115 => ?_) (fun c115 => ?_)
              · have e := rn (fun z => z.2.2.2.2.2.2.1 c115)
                refine Ev.iconst dX8_takesStrand_122 (Eq.refl 123) ?_
                refine Ev.putI dX8_takesStrand_123 (Eq.refl 126) fp_X8_83 rfl rfl (Or.inr ⟨rfl, by omega⟩) ?_
                refine Ev.aload_n dX8_takesStrand_126 (Eq.refl 127) rfl ?_
                refine Ev.getI dX8_takesStrand_127 (Eq.refl 130) fg_X8_83 rfl rfl ?_
                rw [hI_eq]
                refine Ev.if_eq (tgt := 199) dX8_takesStrand_130 (Eq.refl 133) (by decide) ⟨by omega, by omega⟩ (fun c130 => ?_) (fun c130 => ?_)
                · exact Ev.vret dX8_takesStrand_199 rfl ((by first | exact ⟨rfl, tk_n ((mz.w (by omega)).w (by omega)) e hI_eq⟩ | omega))
                · refine Ev.iconst dX8_takesStrand_133 (Eq.refl 134) ?_
                  refine Ev.is3 dX8_takesStrand_134 (Eq.refl 135) (by decide) rfl ?_
                  first | omega | exact LOOP ⟨by rw [hSS]; omega, by omega, by omega, c60, c74, by omega, c115, c98, c106⟩ _ 0 _ rfl (by omega) hR ((mz.w (by omega)).w (by omega)) hI_eq (by rw [hI_nk (by omega), hI_nk (by omega)]; exact g8) (by rw [hI_ni (by omega), hI_ni (by omega)]; exact d1) (fun i hi => by omega) (fun i hi => by rw [hI_ni (by omega), hI_ni (by omega)]; exact n6 i hi) (fun i c => by rw [hI_ni (by omega), hI_ni (by omega)]; exact g3 i)
              · refine Ev.iconst dX8_takesStrand_118 (Eq.refl 119) ?_
                refine Ev.goto' (pc' := 123) dX8_takesStrand_119 (by decide) ?_
                refine Ev.putI dX8_takesStrand_123 (Eq.refl 126) fp_X8_83 rfl rfl (Or.inr ⟨rfl, by omega⟩) ?_
                refine Ev.aload_n dX8_takesStrand_126 (Eq.refl 127) rfl ?_
                refine Ev.getI dX8_takesStrand_127 (Eq.refl 130) fg_X8_83 rfl rfl ?_
                rw [hI_eq]
                refine Ev.if_eq (tgt := 199) dX8_takesStrand_130 (Eq.refl 133) (by decide) ⟨by omega, by omega⟩ (fun c130 => ?_) (fun c130 => ?_)
                · exact Ev.vret dX8_takesStrand_199 rfl ((by first | exact ⟨rfl, tk_n ((mz.w (by omega)).w (by omega)) e hI_eq⟩ | omega))
                · refine Ev.iconst dX8_takesStrand_133 (Eq.refl 134) ?_
                  refine Ev.is3 dX8_takesStrand_134 (Eq.refl 135) (by decide) rfl ?_
                  first | omega | exact LOOP ⟨by rw [hSS]; omega, by omega, by omega, c60, c74, by omega, c115, c98, c106⟩ _ 0 _ rfl (by omega) hR ((mz.w (by omega)).w (by omega)) hI_eq (by rw [hI_nk (by omega), hI_nk (by omega)]; exact g8) (by rw [hI_ni (by omega), hI_ni (by omega)]; exact d1) (fun i hi => by omega) (fun i hi => by rw [hI_ni (by omega), hI_ni (by omega)]; exact n6 i hi) (fun i c => by rw [hI_ni (by omega), hI_ni (by omega)]; exact g3 i)
      · refine Ev.iload_n dX8_takesStrand_38 (Eq.refl 39) rfl ?_
        refine Ev.aload_n dX8_takesStrand_39 (Eq.refl 40) rfl ?_
        refine Ev.getR dX8_takesStrand_40 (Eq.refl 43) fg_X8_17 rfl rfl (rX8_4 hR) ?_
        refine Ev.iconst dX8_takesStrand_43 (Eq.refl 44) ?_
        refine Ev.iaload dX8_takesStrand_44 (Eq.refl 45) rfl rfl (by omega) (by decide) (show (0 : Int).toNat = 0 from rfl) ?_
        rw [d0]
        refine Ev.icmp_ge (tgt := 81) dX8_takesStrand_45 (Eq.refl 48) (by decide) ⟨by omega, by omega⟩ ⟨by omega, by omega⟩ (fun c45 => ?_) (fun c45 => ?_)
        · have e := rn (fun z => by have := z.2.1; omega)
          refine Ev.iconst dX8_takesStrand_81 (Eq.refl 82) ?_
          refine Ev.putI dX8_takesStrand_82 (Eq.refl 85) fp_X8_83 rfl rfl (Or.inr ⟨rfl, by omega⟩) ?_
          refine Ev.aload_n dX8_takesStrand_85 (Eq.refl 86) rfl ?_
          refine Ev.aload_n dX8_takesStrand_86 (Eq.refl 87) rfl ?_
          refine Ev.getI dX8_takesStrand_87 (Eq.refl 90) fg_X8_83 rfl rfl ?_
          rw [hI_eq]
          refine Ev.if_eq (tgt := 122) dX8_takesStrand_90 (Eq.refl 93) (by decide) ⟨by omega, by omega⟩ (fun c90 => ?_) (fun c90 => ?_)
          · refine Ev.iconst dX8_takesStrand_122 (Eq.refl 123) ?_
            refine Ev.putI dX8_takesStrand_123 (Eq.refl 126) fp_X8_83 rfl rfl (Or.inr ⟨rfl, by omega⟩) ?_
            refine Ev.aload_n dX8_takesStrand_126 (Eq.refl 127) rfl ?_
            refine Ev.getI dX8_takesStrand_127 (Eq.refl 130) fg_X8_83 rfl rfl ?_
            rw [hI_eq]
            refine Ev.if_eq (tgt := 199) dX8_takesStrand_130 (Eq.refl 133) (by decide) ⟨by omega, by omega⟩ (fun c130 => ?_) (fun c130 => ?_)
            · exact Ev.vret dX8_takesStrand_199 rfl ((by first | exact ⟨rfl, tk_n ((mz.w (by omega)).w (by omega)) e hI_eq⟩ | omega))
            · refine Ev.iconst dX8_takesStrand_133 (Eq.refl 134) ?_
              refine Ev.is3 dX8_takesStrand_134 (Eq.refl 135) (by decide) rfl ?_
              first | omega | exact LOOP ⟨by rw [hSS]; omega, by omega, by omega, c60, c74, by omega, c115, c98, c106⟩ _ 0 _ rfl (by omega) hR ((mz.w (by omega)).w (by omega)) hI_eq (by rw [hI_nk (by omega), hI_nk (by omega)]; exact g8) (by rw [hI_ni (by omega), hI_ni (by omega)]; exact d1) (fun i hi => by omega) (fun i hi => by rw [hI_ni (by omega), hI_ni (by omega)]; exact n6 i hi) (fun i c => by rw [hI_ni (by omega), hI_ni (by omega)]; exact g3 i)
          · refine Ev.aload_n dX8_takesStrand_93 (Eq.refl 94) rfl ?_
            refine Ev.iload_n dX8_takesStrand_94 (Eq.refl 95) rfl ?_
            refine Ev.cv1E dX8_takesStrand_95 (Eq.refl 98) cw_X8_106 (Nat.le_of_ble_eq_true rfl) (by decide) rfl rfl rfl (Nat.le_of_ble_eq_true rfl) (hasR _ a (by omega)) ?_
            refine Ev.if_eqB (tgt := 122) dX8_takesStrand_98 (Eq.refl 101) (by decide) (fun c98 => ?_) (fun c98 => ?_)
            · have e := rn (fun z => c98 z.2.2.2.2.2.2.2.1)
              refine Ev.iconst dX8_takesStrand_122 (Eq.refl 123) ?_
              refine Ev.putI dX8_takesStrand_123 (Eq.refl 126) fp_X8_83 rfl rfl (Or.inr ⟨rfl, by omega⟩) ?_
              refine Ev.aload_n dX8_takesStrand_126 (Eq.refl 127) rfl ?_
              refine Ev.getI dX8_takesStrand_127 (Eq.refl 130) fg_X8_83 rfl rfl ?_
              rw [hI_eq]
              refine Ev.if_eq (tgt := 199) dX8_takesStrand_130 (Eq.refl 133) (by decide) ⟨by omega, by omega⟩ (fun c130 => ?_) (fun c130 => ?_)
              · exact Ev.vret dX8_takesStrand_199 rfl ((by first | exact ⟨rfl, tk_n ((mz.w (by omega)).w (by omega)) e hI_eq⟩ | omega))
              · refine Ev.iconst dX8_takesStrand_133 (Eq.refl 134) ?_
                refine Ev.is3 dX8_takesStrand_134 (Eq.refl 135) (by decide) rfl ?_
                first | omega | exact LOOP ⟨by rw [hSS]; omega, by omega, by omega, c60, c74, by omega, c115, c98, c106⟩ _ 0 _ rfl (by omega) hR ((mz.w (by omega)).w (by omega)) hI_eq (by rw [hI_nk (by omega), hI_nk (by omega)]; exact g8) (by rw [hI_ni (by omega), hI_ni (by omega)]; exact d1) (fun i hi => by omega) (fun i hi => by rw [hI_ni (by omega), hI_ni (by omega)]; exact n6 i hi) (fun i c => by rw [hI_ni (by omega), hI_ni (by omega)]; exact g3 i)
            · refine Ev.aload_n dX8_takesStrand_101 (Eq.refl 102) rfl ?_
              refine Ev.iload_n dX8_takesStrand_102 (Eq.refl 103) rfl ?_
              refine Ev.cv1E dX8_takesStrand_103 (Eq.refl 106) cw_X8_106 (Nat.le_of_ble_eq_true rfl) (by decide) rfl rfl rfl (Nat.le_of_ble_eq_true rfl) (hasR _ b (by omega)) ?_
              refine Ev.if_eqB (tgt := 122) dX8_takesStrand_106 (Eq.refl 109) (by decide) (fun c106 => ?_) (fun c106 => ?_)
              · have e := rn (fun z => c106 z.2.2.2.2.2.2.2.2)
                refine Ev.iconst dX8_takesStrand_122 (Eq.refl 123) ?_
                refine Ev.putI dX8_takesStrand_123 (Eq.refl 126) fp_X8_83 rfl rfl (Or.inr ⟨rfl, by omega⟩) ?_
                refine Ev.aload_n dX8_takesStrand_126 (Eq.refl 127) rfl ?_
                refine Ev.getI dX8_takesStrand_127 (Eq.refl 130) fg_X8_83 rfl rfl ?_
                rw [hI_eq]
                refine Ev.if_eq (tgt := 199) dX8_takesStrand_130 (Eq.refl 133) (by decide) ⟨by omega, by omega⟩ (fun c130 => ?_) (fun c130 => ?_)
                · exact Ev.vret dX8_takesStrand_199 rfl ((by first | exact ⟨rfl, tk_n ((mz.w (by omega)).w (by omega)) e hI_eq⟩ | omega))
                · refine Ev.iconst dX8_takesStrand_133 (Eq.refl 134) ?_
                  refine Ev.is3 dX8_takesStrand_134 (Eq.refl 135) (by decide) rfl ?_
                  first | omega | exact LOOP ⟨by rw [hSS]; omega, by omega, by omega, c60, c74, by omega, c115, c98, c106⟩ _ 0 _ rfl (by omega) hR ((mz.w (by omega)).w (by omega)) hI_eq (by rw [hI_nk (by omega), hI_nk (by omega)]; exact g8) (by rw [hI_ni (by omega), hI_ni (by omega)]; exact d1) (fun i hi => by omega) (fun i hi => by rw [hI_ni (by omega), hI_ni (by omega)]; exact n6 i hi) (fun i c => by rw [hI_ni (by omega), hI_ni (by omega)]; exact g3 i)
              · refine Ev.aload_n dX8_takesStrand_109 (Eq.refl 110) rfl ?_
                refine Ev.iload_n dX8_takesStrand_110 (Eq.refl 111) rfl ?_
                refine Ev.iload_n dX8_takesStrand_111 (Eq.refl 112) rfl ?_
                refine Ev.cv2E dX8_takesStrand_112 (Eq.refl 115) cw_X8_109 (Nat.le_of_ble_eq_true rfl) (by decide) rfl rfl rfl (Nat.le_of_ble_eq_true rfl) (tieR _ (by omega)) ?_
                refine Ev.if_neB (tgt := 122) dX8_takesStrand_115 (Eq.refl 118) (by decide) (fun c115 => ?_) (fun c115 => ?_)
                · have e := rn (fun z => z.2.2.2.2.2.2.1 c115)
                  refine Ev.iconst dX8_takesStrand_122 (Eq.refl 123) ?_
                  refine Ev.putI dX8_takesStrand_123 (Eq.refl 126) fp_X8_83 rfl rfl (Or.inr ⟨rfl, by omega⟩) ?_
                  refine Ev.aload_n dX8_takesStrand_126 (Eq.refl 127) rfl ?_
                  refine Ev.getI dX8_takesStrand_127 (Eq.refl 130) fg_X8_83 rfl rfl ?_
                  rw [hI_eq]
                  refine Ev.if_eq (tgt := 199) dX8_takesStrand_130 (Eq.refl 133) (by decide) ⟨by omega, by omega⟩ (fun c130 => ?_) (fun c130 => ?_)
                  · exact Ev.vret dX8_takesStrand_199 rfl ((by first | exact ⟨rfl, tk_n ((mz.w (by omega)).w (by omega)) e hI_eq⟩ | omega))
                  · refine Ev.iconst dX8_takesStrand_133 (Eq.refl 134) ?_
                    refine Ev.is3 dX8_takesStrand_134 (Eq.refl 135) (by decide) rfl ?_
                    first | omega | exact LOOP ⟨by rw [hSS]; omega, by omega, by omega, c60, c74, by omega, c115, c98, c106⟩ _ 0 _ rfl (by omega) hR ((mz.w (by omega)).w (by omega)) hI_eq (by rw [hI_nk (by omega), hI_nk (by omega)]; exact g8) (by rw [hI_ni (by omega), hI_ni (by omega)]; exact d1) (fun i hi => by omega) (fun i hi => by rw [hI_ni (by omega), hI_ni (by omega)]; exact n6 i hi) (fun i c => by rw [hI_ni (by omega), hI_ni (by omega)]; exact g3 i)
                · refine Ev.iconst dX8_takesStrand_118 (Eq.refl 119) ?_
                  refine Ev.goto' (pc' := 123) dX8_takesStrand_119 (by decide) ?_
                  refine Ev.putI dX8_takesStrand_123 (Eq.refl 126) fp_X8_83 rfl rfl (Or.inr ⟨rfl, by omega⟩) ?_
                  refine Ev.aload_n dX8_takesStrand_126 (Eq.refl 127) rfl ?_
                  refine Ev.getI dX8_takesStrand_127 (Eq.refl 130) fg_X8_83 rfl rfl ?_
                  rw [hI_eq]
                  refine Ev.if_eq (tgt := 199) dX8_takesStrand_130 (Eq.refl 133) (by decide) ⟨by omega, by omega⟩ (fun c130 => ?_) (fun c130 => ?_)
                  · exact Ev.vret dX8_takesStrand_199 rfl ((by first | exact ⟨rfl, tk_n ((mz.w (by omega)).w (by omega)) e hI_eq⟩ | omega))
                  · refine Ev.iconst dX8_takesStrand_133 (Eq.refl 134) ?_
                    refine Ev.is3 dX8_takesStrand_134 (Eq.refl 135) (by decide) rfl ?_
                    first | omega | exact LOOP ⟨by rw [hSS]; omega, by omega, by omega, c60, c74, by omega, c115, c98, c106⟩ _ 0 _ rfl (by omega) hR ((mz.w (by omega)).w (by omega)) hI_eq (by rw [hI_nk (by omega), hI_nk (by omega)]; exact g8) (by rw [hI_ni (by omega), hI_ni (by omega)]; exact d1) (fun i hi => by omega) (fun i hi => by rw [hI_ni (by omega), hI_ni (by omega)]; exact n6 i hi) (fun i c => by rw [hI_ni (by omega), hI_ni (by omega)]; exact g3 i)
        · refine Ev.iload_n dX8_takesStrand_48 (Eq.refl 49) rfl ?_
          refine Ev.aload_n dX8_takesStrand_49 (Eq.refl 50) rfl ?_
          refine Ev.getR dX8_takesStrand_50 (Eq.refl 53) fg_X8_17 rfl rfl (rX8_4 hR) ?_
          refine Ev.iconst dX8_takesStrand_53 (Eq.refl 54) ?_
          refine Ev.iaload dX8_takesStrand_54 (Eq.refl 55) rfl rfl (by omega) (by decide) (show (0 : Int).toNat = 0 from rfl) ?_
          rw [d0]
          refine Ev.icmp_ge (tgt := 81) dX8_takesStrand_55 (Eq.refl 58) (by decide) ⟨by omega, by omega⟩ ⟨by omega, by omega⟩ (fun c55 => ?_) (fun c55 => ?_)
          · have e := rn (fun z => by have := z.2.2.1; omega)
            refine Ev.iconst dX8_takesStrand_81 (Eq.refl 82) ?_
            refine Ev.putI dX8_takesStrand_82 (Eq.refl 85) fp_X8_83 rfl rfl (Or.inr ⟨rfl, by omega⟩) ?_
            refine Ev.aload_n dX8_takesStrand_85 (Eq.refl 86) rfl ?_
            refine Ev.aload_n dX8_takesStrand_86 (Eq.refl 87) rfl ?_
            refine Ev.getI dX8_takesStrand_87 (Eq.refl 90) fg_X8_83 rfl rfl ?_
            rw [hI_eq]
            refine Ev.if_eq (tgt := 122) dX8_takesStrand_90 (Eq.refl 93) (by decide) ⟨by omega, by omega⟩ (fun c90 => ?_) (fun c90 => ?_)
            · refine Ev.iconst dX8_takesStrand_122 (Eq.refl 123) ?_
              refine Ev.putI dX8_takesStrand_123 (Eq.refl 126) fp_X8_83 rfl rfl (Or.inr ⟨rfl, by omega⟩) ?_
              refine Ev.aload_n dX8_takesStrand_126 (Eq.refl 127) rfl ?_
              refine Ev.getI dX8_takesStrand_127 (Eq.refl 130) fg_X8_83 rfl rfl ?_
              rw [hI_eq]
              refine Ev.if_eq (tgt := 199) dX8_takesStrand_130 (Eq.refl 133) (by decide) ⟨by omega, by omega⟩ (fun c130 => ?_) (fun c130 => ?_)
              · exact Ev.vret dX8_takesStrand_199 rfl ((by first | exact ⟨rfl, tk_n ((mz.w (by omega)).w (by omega)) e hI_eq⟩ | omega))
              · refine Ev.iconst dX8_takesStrand_133 (Eq.refl 134) ?_
                refine Ev.is3 dX8_takesStrand_134 (Eq.refl 135) (by decide) rfl ?_
                first | omega | exact LOOP ⟨by rw [hSS]; omega, by omega, by omega, c60, c74, by omega, c115, c98, c106⟩ _ 0 _ rfl (by omega) hR ((mz.w (by omega)).w (by omega)) hI_eq (by rw [hI_nk (by omega), hI_nk (by omega)]; exact g8) (by rw [hI_ni (by omega), hI_ni (by omega)]; exact d1) (fun i hi => by omega) (fun i hi => by rw [hI_ni (by omega), hI_ni (by omega)]; exact n6 i hi) (fun i c => by rw [hI_ni (by omega), hI_ni (by omega)]; exact g3 i)
            · refine Ev.aload_n dX8_takesStrand_93 (Eq.refl 94) rfl ?_
              refine Ev.iload_n dX8_takesStrand_94 (Eq.refl 95) rfl ?_
              refine Ev.cv1E dX8_takesStrand_95 (Eq.refl 98) cw_X8_106 (Nat.le_of_ble_eq_true rfl) (by decide) rfl rfl rfl (Nat.le_of_ble_eq_true rfl) (hasR _ a (by omega)) ?_
              refine Ev.if_eqB (tgt := 122) dX8_takesStrand_98 (Eq.refl 101) (by decide) (fun c98 => ?_) (fun c98 => ?_)
              · have e := rn (fun z => c98 z.2.2.2.2.2.2.2.1)
                refine Ev.iconst dX8_takesStrand_122 (Eq.refl 123) ?_
                refine Ev.putI dX8_takesStrand_123 (Eq.refl 126) fp_X8_83 rfl rfl (Or.inr ⟨rfl, by omega⟩) ?_
                refine Ev.aload_n dX8_takesStrand_126 (Eq.refl 127) rfl ?_
                refine Ev.getI dX8_takesStrand_127 (Eq.refl 130) fg_X8_83 rfl rfl ?_
                rw [hI_eq]
                refine Ev.if_eq (tgt := 199) dX8_takesStrand_130 (Eq.refl 133) (by decide) ⟨by omega, by omega⟩ (fun c130 => ?_) (fun c130 => ?_)
                · exact Ev.vret dX8_takesStrand_199 rfl ((by first | exact ⟨rfl, tk_n ((mz.w (by omega)).w (by omega)) e hI_eq⟩ | omega))
                · refine Ev.iconst dX8_takesStrand_133 (Eq.refl 134) ?_
                  refine Ev.is3 dX8_takesStrand_134 (Eq.refl 135) (by decide) rfl ?_
                  first | omega | exact LOOP ⟨by rw [hSS]; omega, by omega, by omega, c60, c74, by omega, c115, c98, c106⟩ _ 0 _ rfl (by omega) hR ((mz.w (by omega)).w (by omega)) hI_eq (by rw [hI_nk (by omega), hI_nk (by omega)]; exact g8) (by rw [hI_ni (by omega), hI_ni (by omega)]; exact d1) (fun i hi => by omega) (fun i hi => by rw [hI_ni (by omega), hI_ni (by omega)]; exact n6 i hi) (fun i c => by rw [hI_ni (by omega), hI_ni (by omega)]; exact g3 i)
              · refine Ev.aload_n dX8_takesStrand_101 (Eq.refl 102) rfl ?_
                refine Ev.iload_n dX8_takesStrand_102 (Eq.refl 103) rfl ?_
                refine Ev.cv1E dX8_takesStrand_103 (Eq.refl 106) cw_X8_106 (Nat.le_of_ble_eq_true rfl) (by decide) rfl rfl rfl (Nat.le_of_ble_eq_true rfl) (hasR _ b (by omega)) ?_
                refine Ev.if_eqB (tgt := 122) dX8_takesStrand_106 (Eq.refl 109) (by decide) (fun c106 => ?_) (fun c106 => ?_)
                · have e := rn (fun z => c106 z.2.2.2.2.2.2.2.2)
                  refine Ev.iconst dX8_takesStrand_122 (Eq.refl 123) ?_
                  refine Ev.putI dX8_takesStrand_123 (Eq.refl 126) fp_X8_83 rfl rfl (Or.inr ⟨rfl, by omega⟩) ?_
                  refine Ev.aload_n dX8_takesStrand_126 (Eq.refl 127) rfl ?_
                  refine Ev.getI dX8_takesStrand_127 (Eq.refl 130) fg_X8_83 rfl rfl ?_
                  rw [hI_eq]
                  refine Ev.if_eq (tgt := 199) dX8_takesStrand_130 (Eq.refl 133) (by decide) ⟨by omega, by omega⟩ (fun c130 => ?_) (fun c130 => ?_)
                  · exact Ev.vret dX8_takesStrand_199 rfl ((by first | exact ⟨rfl, tk_n ((mz.w (by omega)).w (by omega)) e hI_eq⟩ | omega))
                  · refine Ev.iconst dX8_takesStrand_133 (Eq.refl 134) ?_
                    refine Ev.is3 dX8_takesStrand_134 (Eq.refl 135) (by decide) rfl ?_
                    first | omega | exact LOOP ⟨by rw [hSS]; omega, by omega, by omega, c60, c74, by omega, c115, c98, c106⟩ _ 0 _ rfl (by omega) hR ((mz.w (by omega)).w (by omega)) hI_eq (by rw [hI_nk (by omega), hI_nk (by omega)]; exact g8) (by rw [hI_ni (by omega), hI_ni (by omega)]; exact d1) (fun i hi => by omega) (fun i hi => by rw [hI_ni (by omega), hI_ni (by omega)]; exact n6 i hi) (fun i c => by rw [hI_ni (by omega), hI_ni (by omega)]; exact g3 i)
                · refine Ev.aload_n dX8_takesStrand_109 (Eq.refl 110) rfl ?_
                  refine Ev.iload_n dX8_takesStrand_110 (Eq.refl 111) rfl ?_
                  refine Ev.iload_n dX8_takesStrand_111 (Eq.refl 112) rfl ?_
                  refine Ev.cv2E dX8_takesStrand_112 (Eq.refl 115) cw_X8_109 (Nat.le_of_ble_eq_true rfl) (by decide) rfl rfl rfl (Nat.le_of_ble_eq_true rfl) (tieR _ (by omega)) ?_
                  refine Ev.if_neB (tgt := 122) dX8_takesStrand_115 (Eq.refl 118) (by decide) (fun c115 => ?_) (fun c115 => ?_)
                  · have e := rn (fun z => z.2.2.2.2.2.2.1 c115)
                    refine Ev.iconst dX8_takesStrand_122 (Eq.refl 123) ?_
                    refine Ev.putI dX8_takesStrand_123 (Eq.refl 126) fp_X8_83 rfl rfl (Or.inr ⟨rfl, by omega⟩) ?_
                    refine Ev.aload_n dX8_takesStrand_126 (Eq.refl 127) rfl ?_
                    refine Ev.getI dX8_takesStrand_127 (Eq.refl 130) fg_X8_83 rfl rfl ?_
                    rw [hI_eq]
                    refine Ev.if_eq (tgt := 199) dX8_takesStrand_130 (Eq.refl 133) (by decide) ⟨by omega, by omega⟩ (fun c130 => ?_) (fun c130 => ?_)
                    · exact Ev.vret dX8_takesStrand_199 rfl ((by first | exact ⟨rfl, tk_n ((mz.w (by omega)).w (by omega)) e hI_eq⟩ | omega))
                    · refine Ev.iconst dX8_takesStrand_133 (Eq.refl 134) ?_
                      refine Ev.is3 dX8_takesStrand_134 (Eq.refl 135) (by decide) rfl ?_
                      first | omega | exact LOOP ⟨by rw [hSS]; omega, by omega, by omega, c60, c74, by omega, c115, c98, c106⟩ _ 0 _ rfl (by omega) hR ((mz.w (by omega)).w (by omega)) hI_eq (by rw [hI_nk (by omega), hI_nk (by omega)]; exact g8) (by rw [hI_ni (by omega), hI_ni (by omega)]; exact d1) (fun i hi => by omega) (fun i hi => by rw [hI_ni (by omega), hI_ni (by omega)]; exact n6 i hi) (fun i c => by rw [hI_ni (by omega), hI_ni (by omega)]; exact g3 i)
                  · refine Ev.iconst dX8_takesStrand_118 (Eq.refl 119) ?_
                    refine Ev.goto' (pc' := 123) dX8_takesStrand_119 (by decide) ?_
                    refine Ev.putI dX8_takesStrand_123 (Eq.refl 126) fp_X8_83 rfl rfl (Or.inr ⟨rfl, by omega⟩) ?_
                    refine Ev.aload_n dX8_takesStrand_126 (Eq.refl 127) rfl ?_
                    refine Ev.getI dX8_takesStrand_127 (Eq.refl 130) fg_X8_83 rfl rfl ?_
                    rw [hI_eq]
                    refine Ev.if_eq (tgt := 199) dX8_takesStrand_130 (Eq.refl 133) (by decide) ⟨by omega, by omega⟩ (fun c130 => ?_) (fun c130 => ?_)
                    · exact Ev.vret dX8_takesStrand_199 rfl ((by first | exact ⟨rfl, tk_n ((mz.w (by omega)).w (by omega)) e hI_eq⟩ | omega))
                    · refine Ev.iconst dX8_takesStrand_133 (Eq.refl 134) ?_
                      refine Ev.is3 dX8_takesStrand_134 (Eq.refl 135) (by decide) rfl ?_
                      first | omega | exact LOOP ⟨by rw [hSS]; omega, by omega, by omega, c60, c74, by omega, c115, c98, c106⟩ _ 0 _ rfl (by omega) hR ((mz.w (by omega)).w (by omega)) hI_eq (by rw [hI_nk (by omega), hI_nk (by omega)]; exact g8) (by rw [hI_ni (by omega), hI_ni (by omega)]; exact d1) (fun i hi => by omega) (fun i hi => by rw [hI_ni (by omega), hI_ni (by omega)]; exact n6 i hi) (fun i c => by rw [hI_ni (by omega), hI_ni (by omega)]; exact g3 i)
          · refine Ev.iload_n dX8_takesStrand_58 (Eq.refl 59) rfl ?_
            refine Ev.iload_n dX8_takesStrand_59 (Eq.refl 60) rfl ?_
            refine Ev.icmp_eq (tgt := 81) dX8_takesStrand_60 (Eq.refl 63) (by decide) ⟨by omega, by omega⟩ ⟨by omega, by omega⟩ (fun c60 => ?_) (fun c60 => ?_)
            · have e := rn (fun z => z.2.2.2.1 c60)
              refine Ev.iconst dX8_takesStrand_81 (Eq.refl 82) ?_
              refine Ev.putI dX8_takesStrand_82 (Eq.refl 85) fp_X8_83 rfl rfl (Or.inr ⟨rfl, by omega⟩) ?_
              refine Ev.aload_n dX8_takesStrand_85 (Eq.refl 86) rfl ?_
              refine Ev.aload_n dX8_takesStrand_86 (Eq.refl 87) rfl ?_
              refine Ev.getI dX8_takesStrand_87 (Eq.refl 90) fg_X8_83 rfl rfl ?_
              rw [hI_eq]
              refine Ev.if_eq (tgt := 122) dX8_takesStrand_90 (Eq.refl 93) (by decide) ⟨by omega, by omega⟩ (fun c90 => ?_) (fun c90 => ?_)
              · refine Ev.iconst dX8_takesStrand_122 (Eq.refl 123) ?_
                refine Ev.putI dX8_takesStrand_123 (Eq.refl 126) fp_X8_83 rfl rfl (Or.inr ⟨rfl, by omega⟩) ?_
                refine Ev.aload_n dX8_takesStrand_126 (Eq.refl 127) rfl ?_
                refine Ev.getI dX8_takesStrand_127 (Eq.refl 130) fg_X8_83 rfl rfl ?_
                rw [hI_eq]
                refine Ev.if_eq (tgt := 199) dX8_takesStrand_130 (Eq.refl 133) (by decide) ⟨by omega, by omega⟩ (fun c130 => ?_) (fun c130 => ?_)
                · exact Ev.vret dX8_takesStrand_199 rfl ((by first | exact ⟨rfl, tk_n ((mz.w (by omega)).w (by omega)) e hI_eq⟩ | omega))
                · refine Ev.iconst dX8_takesStrand_133 (Eq.refl 134) ?_
                  refine Ev.is3 dX8_takesStrand_134 (Eq.refl 135) (by decide) rfl ?_
                  first | omega | exact LOOP ⟨by rw [hSS]; omega, by omega, by omega, c60, c74, by omega, c115, c98, c106⟩ _ 0 _ rfl (by omega) hR ((mz.w (by omega)).w (by omega)) hI_eq (by rw [hI_nk (by omega), hI_nk (by omega)]; exact g8) (by rw [hI_ni (by omega), hI_ni (by omega)]; exact d1) (fun i hi => by omega) (fun i hi => by rw [hI_ni (by omega), hI_ni (by omega)]; exact n6 i hi) (fun i c => by rw [hI_ni (by omega), hI_ni (by omega)]; exact g3 i)
              · refine Ev.aload_n dX8_takesStrand_93 (Eq.refl 94) rfl ?_
                refine Ev.iload_n dX8_takesStrand_94 (Eq.refl 95) rfl ?_
                refine Ev.cv1E dX8_takesStrand_95 (Eq.refl 98) cw_X8_106 (Nat.le_of_ble_eq_true rfl) (by decide) rfl rfl rfl (Nat.le_of_ble_eq_true rfl) (hasR _ a (by omega)) ?_
                refine Ev.if_eqB (tgt := 122) dX8_takesStrand_98 (Eq.refl 101) (by decide) (fun c98 => ?_) (fun c98 => ?_)
                · have e := rn (fun z => c98 z.2.2.2.2.2.2.2.1)
                  refine Ev.iconst dX8_takesStrand_122 (Eq.refl 123) ?_
                  refine Ev.putI dX8_takesStrand_123 (Eq.refl 126) fp_X8_83 rfl rfl (Or.inr ⟨rfl, by omega⟩) ?_
                  refine Ev.aload_n dX8_takesStrand_126 (Eq.refl 127) rfl ?_
                  refine Ev.getI dX8_takesStrand_127 (Eq.refl 130) fg_X8_83 rfl rfl ?_
                  rw [hI_eq]
                  refine Ev.if_eq (tgt := 199) dX8_takesStrand_130 (Eq.refl 133) (by decide) ⟨by omega, by omega⟩ (fun c130 => ?_) (fun c130 => ?_)
                  · exact Ev.vret dX8_takesStrand_199 rfl ((by first | exact ⟨rfl, tk_n ((mz.w (by omega)).w (by omega)) e hI_eq⟩ | omega))
                  · refine Ev.iconst dX8_takesStrand_133 (Eq.refl 134) ?_
                    refine Ev.is3 dX8_takesStrand_134 (Eq.refl 135) (by decide) rfl ?_
                    first | omega | exact LOOP ⟨by rw [hSS]; omega, by omega, by omega, c60, c74, by omega, c115, c98, c106⟩ _ 0 _ rfl (by omega) hR ((mz.w (by omega)).w (by omega)) hI_eq (by rw [hI_nk (by omega), hI_nk (by omega)]; exact g8) (by rw [hI_ni (by omega), hI_ni (by omega)]; exact d1) (fun i hi => by omega) (fun i hi => by rw [hI_ni (by omega), hI_ni (by omega)]; exact n6 i hi) (fun i c => by rw [hI_ni (by omega), hI_ni (by omega)]; exact g3 i)
                · refine Ev.aload_n dX8_takesStrand_101 (Eq.refl 102) rfl ?_
                  refine Ev.iload_n dX8_takesStrand_102 (Eq.refl 103) rfl ?_
                  refine Ev.cv1E dX8_takesStrand_103 (Eq.refl 106) cw_X8_106 (Nat.le_of_ble_eq_true rfl) (by decide) rfl rfl rfl (Nat.le_of_ble_eq_true rfl) (hasR _ b (by omega)) ?_
                  refine Ev.if_eqB (tgt := 122) dX8_takesStrand_106 (Eq.refl 109) (by decide) (fun c106 => ?_) (fun c106 => ?_)
                  · have e := rn (fun z => c106 z.2.2.2.2.2.2.2.2)
                    refine Ev.iconst dX8_takesStrand_122 (Eq.refl 123) ?_
                    refine Ev.putI dX8_takesStrand_123 (Eq.refl 126) fp_X8_83 rfl rfl (Or.inr ⟨rfl, by omega⟩) ?_
                    refine Ev.aload_n dX8_takesStrand_126 (Eq.refl 127) rfl ?_
                    refine Ev.getI dX8_takesStrand_127 (Eq.refl 130) fg_X8_83 rfl rfl ?_
                    rw [hI_eq]
                    refine Ev.if_eq (tgt := 199) dX8_takesStrand_130 (Eq.refl 133) (by decide) ⟨by omega, by omega⟩ (fun c130 => ?_) (fun c130 => ?_)
                    · exact Ev.vret dX8_takesStrand_199 rfl ((by first | exact ⟨rfl, tk_n ((mz.w (by omega)).w (by omega)) e hI_eq⟩ | omega))
                    · refine Ev.iconst dX8_takesStrand_133 (Eq.refl 134) ?_
                      refine Ev.is3 dX8_takesStrand_134 (Eq.refl 135) (by decide) rfl ?_
                      first | omega | exact LOOP ⟨by rw [hSS]; omega, by omega, by omega, c60, c74, by omega, c115, c98, c106⟩ _ 0 _ rfl (by omega) hR ((mz.w (by omega)).w (by omega)) hI_eq (by rw [hI_nk (by omega), hI_nk (by omega)]; exact g8) (by rw [hI_ni (by omega), hI_ni (by omega)]; exact d1) (fun i hi => by omega) (fun i hi => by rw [hI_ni (by omega), hI_ni (by omega)]; exact n6 i hi) (fun i c => by rw [hI_ni (by omega), hI_ni (by omega)]; exact g3 i)
                  · refine Ev.aload_n dX8_takesStrand_109 (Eq.refl 110) rfl ?_
                    refine Ev.iload_n dX8_takesStrand_110 (Eq.refl 111) rfl ?_
                    refine Ev.iload_n dX8_takesStrand_111 (Eq.refl 112) rfl ?_
                    refine Ev.cv2E dX8_takesStrand_112 (Eq.refl 115) cw_X8_109 (Nat.le_of_ble_eq_true rfl) (by decide) rfl rfl rfl (Nat.le_of_ble_eq_true rfl) (tieR _ (by omega)) ?_
                    refine Ev.if_neB (tgt := 122) dX8_takesStrand_115 (Eq.refl 118) (by decide) (fun c115 => ?_) (fun c115 => ?_)
                    · have e := rn (fun z => z.2.2.2.2.2.2.1 c115)
                      refine Ev.iconst dX8_takesStrand_122 (Eq.refl 123) ?_
                      refine Ev.putI dX8_takesStrand_123 (Eq.refl 126) fp_X8_83 rfl rfl (Or.inr ⟨rfl, by omega⟩) ?_
                      refine Ev.aload_n dX8_takesStrand_126 (Eq.refl 127) rfl ?_
                      refine Ev.getI dX8_takesStrand_127 (Eq.refl 130) fg_X8_83 rfl rfl ?_
                      rw [hI_eq]
                      refine Ev.if_eq (tgt := 199) dX8_takesStrand_130 (Eq.refl 133) (by decide) ⟨by omega, by omega⟩ (fun c130 => ?_) (fun c130 => ?_)
                      · exact Ev.vret dX8_takesStrand_199 rfl ((by first | exact ⟨rfl, tk_n ((mz.w (by omega)).w (by omega)) e hI_eq⟩ | omega))
                      · refine Ev.iconst dX8_takesStrand_133 (Eq.refl 134) ?_
                        refine Ev.is3 dX8_takesStrand_134 (Eq.refl 135) (by decide) rfl ?_
                        first | omega | exact LOOP ⟨by rw [hSS]; omega, by omega, by omega, c60, c74, by omega, c115, c98, c106⟩ _ 0 _ rfl (by omega) hR ((mz.w (by omega)).w (by omega)) hI_eq (by rw [hI_nk (by omega), hI_nk (by omega)]; exact g8) (by rw [hI_ni (by omega), hI_ni (by omega)]; exact d1) (fun i hi => by omega) (fun i hi => by rw [hI_ni (by omega), hI_ni (by omega)]; exact n6 i hi) (fun i c => by rw [hI_ni (by omega), hI_ni (by omega)]; exact g3 i)
                    · refine Ev.iconst dX8_takesStrand_118 (Eq.refl 119) ?_
                      refine Ev.goto' (pc' := 123) dX8_takesStrand_119 (by decide) ?_
                      refine Ev.putI dX8_takesStrand_123 (Eq.refl 126) fp_X8_83 rfl rfl (Or.inr ⟨rfl, by omega⟩) ?_
                      refine Ev.aload_n dX8_takesStrand_126 (Eq.refl 127) rfl ?_
                      refine Ev.getI dX8_takesStrand_127 (Eq.refl 130) fg_X8_83 rfl rfl ?_
                      rw [hI_eq]
                      refine Ev.if_eq (tgt := 199) dX8_takesStrand_130 (Eq.refl 133) (by decide) ⟨by omega, by omega⟩ (fun c130 => ?_) (fun c130 => ?_)
                      · exact Ev.vret dX8_takesStrand_199 rfl ((by first | exact ⟨rfl, tk_n ((mz.w (by omega)).w (by omega)) e hI_eq⟩ | omega))
                      · refine Ev.iconst dX8_takesStrand_133 (Eq.refl 134) ?_
                        refine Ev.is3 dX8_takesStrand_134 (Eq.refl 135) (by decide) rfl ?_
                        first | omega | exact LOOP ⟨by rw [hSS]; omega, by omega, by omega, c60, c74, by omega, c115, c98, c106⟩ _ 0 _ rfl (by omega) hR ((mz.w (by omega)).w (by omega)) hI_eq (by rw [hI_nk (by omega), hI_nk (by omega)]; exact g8) (by rw [hI_ni (by omega), hI_ni (by omega)]; exact d1) (fun i hi => by omega) (fun i hi => by rw [hI_ni (by omega), hI_ni (by omega)]; exact n6 i hi) (fun i c => by rw [hI_ni (by omega), hI_ni (by omega)]; exact g3 i)
            · refine Ev.aload_n dX8_takesStrand_63 (Eq.refl 64) rfl ?_
              refine Ev.getR dX8_takesStrand_64 (Eq.refl 67) fg_X8_26 rfl rfl (rX8_10 hR) ?_
              refine Ev.iconst dX8_takesStrand_67 (Eq.refl 68) ?_
              refine Ev.iaload dX8_takesStrand_68 (Eq.refl 69) rfl rfl (by omega) (by decide) (show (2 : Int).toNat = 2 from rfl) ?_
              rw [n2.1]
              refine Ev.iconst dX8_takesStrand_69 (Eq.refl 70) ?_
              refine Ev.iconst dX8_takesStrand_70 (Eq.refl 71) ?_
              refine Ev.cs3E dX8_takesStrand_71 (Eq.refl 74) cw_X8_73 (Nat.le_of_ble_eq_true rfl) (by decide) rfl (Nat.le_of_ble_eq_true rfl) (m_in (by assumption) (by assumption) (by assumption)) ?_
              refine Ev.if_eqB (tgt := 81) dX8_takesStrand_74 (Eq.refl 77) (by decide) (fun c74 => ?_) (fun c74 => ?_)
              · have e := rn (fun z => c74 z.2.2.2.2.1)
                refine Ev.iconst dX8_takesStrand_81 (Eq.refl 82) ?_
                refine Ev.putI dX8_takesStrand_82 (Eq.refl 85) fp_X8_83 rfl rfl (Or.inr ⟨rfl, by omega⟩) ?_
                refine Ev.aload_n dX8_takesStrand_85 (Eq.refl 86) rfl ?_
                refine Ev.aload_n dX8_takesStrand_86 (Eq.refl 87) rfl ?_
                refine Ev.getI dX8_takesStrand_87 (Eq.refl 90) fg_X8_83 rfl rfl ?_
                rw [hI_eq]
                refine Ev.if_eq (tgt := 122) dX8_takesStrand_90 (Eq.refl 93) (by decide) ⟨by omega, by omega⟩ (fun c90 => ?_) (fun c90 => ?_)
                · refine Ev.iconst dX8_takesStrand_122 (Eq.refl 123) ?_
                  refine Ev.putI dX8_takesStrand_123 (Eq.refl 126) fp_X8_83 rfl rfl (Or.inr ⟨rfl, by omega⟩) ?_
                  refine Ev.aload_n dX8_takesStrand_126 (Eq.refl 127) rfl ?_
                  refine Ev.getI dX8_takesStrand_127 (Eq.refl 130) fg_X8_83 rfl rfl ?_
                  rw [hI_eq]
                  refine Ev.if_eq (tgt := 199) dX8_takesStrand_130 (Eq.refl 133) (by decide) ⟨by omega, by omega⟩ (fun c130 => ?_) (fun c130 => ?_)
                  · exact Ev.vret dX8_takesStrand_199 rfl ((by first | exact ⟨rfl, tk_n ((mz.w (by omega)).w (by omega)) e hI_eq⟩ | omega))
                  · refine Ev.iconst dX8_takesStrand_133 (Eq.refl 134) ?_
                    refine Ev.is3 dX8_takesStrand_134 (Eq.refl 135) (by decide) rfl ?_
                    first | omega | exact LOOP ⟨by rw [hSS]; omega, by omega, by omega, c60, c74, by omega, c115, c98, c106⟩ _ 0 _ rfl (by omega) hR ((mz.w (by omega)).w (by omega)) hI_eq (by rw [hI_nk (by omega), hI_nk (by omega)]; exact g8) (by rw [hI_ni (by omega), hI_ni (by omega)]; exact d1) (fun i hi => by omega) (fun i hi => by rw [hI_ni (by omega), hI_ni (by omega)]; exact n6 i hi) (fun i c => by rw [hI_ni (by omega), hI_ni (by omega)]; exact g3 i)
                · refine Ev.aload_n dX8_takesStrand_93 (Eq.refl 94) rfl ?_
                  refine Ev.iload_n dX8_takesStrand_94 (Eq.refl 95) rfl ?_
                  refine Ev.cv1E dX8_takesStrand_95 (Eq.refl 98) cw_X8_106 (Nat.le_of_ble_eq_true rfl) (by decide) rfl rfl rfl (Nat.le_of_ble_eq_true rfl) (hasR _ a (by omega)) ?_
                  refine Ev.if_eqB (tgt := 122) dX8_takesStrand_98 (Eq.refl 101) (by decide) (fun c98 => ?_) (fun c98 => ?_)
                  · have e := rn (fun z => c98 z.2.2.2.2.2.2.2.1)
                    refine Ev.iconst dX8_takesStrand_122 (Eq.refl 123) ?_
                    refine Ev.putI dX8_takesStrand_123 (Eq.refl 126) fp_X8_83 rfl rfl (Or.inr ⟨rfl, by omega⟩) ?_
                    refine Ev.aload_n dX8_takesStrand_126 (Eq.refl 127) rfl ?_
                    refine Ev.getI dX8_takesStrand_127 (Eq.refl 130) fg_X8_83 rfl rfl ?_
                    rw [hI_eq]
                    refine Ev.if_eq (tgt := 199) dX8_takesStrand_130 (Eq.refl 133) (by decide) ⟨by omega, by omega⟩ (fun c130 => ?_) (fun c130 => ?_)
                    · exact Ev.vret dX8_takesStrand_199 rfl ((by first | exact ⟨rfl, tk_n ((mz.w (by omega)).w (by omega)) e hI_eq⟩ | omega))
                    · refine Ev.iconst dX8_takesStrand_133 (Eq.refl 134) ?_
                      refine Ev.is3 dX8_takesStrand_134 (Eq.refl 135) (by decide) rfl ?_
                      first | omega | exact LOOP ⟨by rw [hSS]; omega, by omega, by omega, c60, c74, by omega, c115, c98, c106⟩ _ 0 _ rfl (by omega) hR ((mz.w (by omega)).w (by omega)) hI_eq (by rw [hI_nk (by omega), hI_nk (by omega)]; exact g8) (by rw [hI_ni (by omega), hI_ni (by omega)]; exact d1) (fun i hi => by omega) (fun i hi => by rw [hI_ni (by omega), hI_ni (by omega)]; exact n6 i hi) (fun i c => by rw [hI_ni (by omega), hI_ni (by omega)]; exact g3 i)
                  · refine Ev.aload_n dX8_takesStrand_101 (Eq.refl 102) rfl ?_
                    refine Ev.iload_n dX8_takesStrand_102 (Eq.refl 103) rfl ?_
                    refine Ev.cv1E dX8_takesStrand_103 (Eq.refl 106) cw_X8_106 (Nat.le_of_ble_eq_true rfl) (by decide) rfl rfl rfl (Nat.le_of_ble_eq_true rfl) (hasR _ b (by omega)) ?_
                    refine Ev.if_eqB (tgt := 122) dX8_takesStrand_106 (Eq.refl 109) (by decide) (fun c106 => ?_) (fun c106 => ?_)
                    · have e := rn (fun z => c106 z.2.2.2.2.2.2.2.2)
                      refine Ev.iconst dX8_takesStrand_122 (Eq.refl 123) ?_
                      refine Ev.putI dX8_takesStrand_123 (Eq.refl 126) fp_X8_83 rfl rfl (Or.inr ⟨rfl, by omega⟩) ?_
                      refine Ev.aload_n dX8_takesStrand_126 (Eq.refl 127) rfl ?_
                      refine Ev.getI dX8_takesStrand_127 (Eq.refl 130) fg_X8_83 rfl rfl ?_
                      rw [hI_eq]
                      refine Ev.if_eq (tgt := 199) dX8_takesStrand_130 (Eq.refl 133) (by decide) ⟨by omega, by omega⟩ (fun c130 => ?_) (fun c130 => ?_)
                      · exact Ev.vret dX8_takesStrand_199 rfl ((by first | exact ⟨rfl, tk_n ((mz.w (by omega)).w (by omega)) e hI_eq⟩ | omega))
                      · refine Ev.iconst dX8_takesStrand_133 (Eq.refl 134) ?_
                        refine Ev.is3 dX8_takesStrand_134 (Eq.refl 135) (by decide) rfl ?_
                        first | omega | exact LOOP ⟨by rw [hSS]; omega, by omega, by omega, c60, c74, by omega, c115, c98, c106⟩ _ 0 _ rfl (by omega) hR ((mz.w (by omega)).w (by omega)) hI_eq (by rw [hI_nk (by omega), hI_nk (by omega)]; exact g8) (by rw [hI_ni (by omega), hI_ni (by omega)]; exact d1) (fun i hi => by omega) (fun i hi => by rw [hI_ni (by omega), hI_ni (by omega)]; exact n6 i hi) (fun i c => by rw [hI_ni (by omega), hI_ni (by omega)]; exact g3 i)
                    · refine Ev.aload_n dX8_takesStrand_109 (Eq.refl 110) rfl ?_
                      refine Ev.iload_n dX8_takesStrand_110 (Eq.refl 111) rfl ?_
                      refine Ev.iload_n dX8_takesStrand_111 (Eq.refl 112) rfl ?_
                      refine Ev.cv2E dX8_takesStrand_112 (Eq.refl 115) cw_X8_109 (Nat.le_of_ble_eq_true rfl) (by decide) rfl rfl rfl (Nat.le_of_ble_eq_true rfl) (tieR _ (by omega)) ?_
                      refine Ev.if_neB (tgt := 122) dX8_takesStrand_115 (Eq.refl 118) (by decide) (fun c115 => ?_) (fun c115 => ?_)
                      · have e := rn (fun z => z.2.2.2.2.2.2.1 c115)
                        refine Ev.iconst dX8_takesStrand_122 (Eq.refl 123) ?_
                        refine Ev.putI dX8_takesStrand_123 (Eq.refl 126) fp_X8_83 rfl rfl (Or.inr ⟨rfl, by omega⟩) ?_
                        refine Ev.aload_n dX8_takesStrand_126 (Eq.refl 127) rfl ?_
                        refine Ev.getI dX8_takesStrand_127 (Eq.refl 130) fg_X8_83 rfl rfl ?_
                        rw [hI_eq]
                        refine Ev.if_eq (tgt := 199) dX8_takesStrand_130 (Eq.refl 133) (by decide) ⟨by omega, by omega⟩ (fun c130 => ?_) (fun c130 => ?_)
                        · exact Ev.vret dX8_takesStrand_199 rfl ((by first | exact ⟨rfl, tk_n ((mz.w (by omega)).w (by omega)) e hI_eq⟩ | omega))
                        · refine Ev.iconst dX8_takesStrand_133 (Eq.refl 134) ?_
                          refine Ev.is3 dX8_takesStrand_134 (Eq.refl 135) (by decide) rfl ?_
                          first | omega | exact LOOP ⟨by rw [hSS]; omega, by omega, by omega, c60, c74, by omega, c115, c98, c106⟩ _ 0 _ rfl (by omega) hR ((mz.w (by omega)).w (by omega)) hI_eq (by rw [hI_nk (by omega), hI_nk (by omega)]; exact g8) (by rw [hI_ni (by omega), hI_ni (by omega)]; exact d1) (fun i hi => by omega) (fun i hi => by rw [hI_ni (by omega), hI_ni (by omega)]; exact n6 i hi) (fun i c => by rw [hI_ni (by omega), hI_ni (by omega)]; exact g3 i)
                      · refine Ev.iconst dX8_takesStrand_118 (Eq.refl 119) ?_
                        refine Ev.goto' (pc' := 123) dX8_takesStrand_119 (by decide) ?_
                        refine Ev.putI dX8_takesStrand_123 (Eq.refl 126) fp_X8_83 rfl rfl (Or.inr ⟨rfl, by omega⟩) ?_
                        refine Ev.aload_n dX8_takesStrand_126 (Eq.refl 127) rfl ?_
                        refine Ev.getI dX8_takesStrand_127 (Eq.refl 130) fg_X8_83 rfl rfl ?_
                        rw [hI_eq]
                        refine Ev.if_eq (tgt := 199) dX8_takesStrand_130 (Eq.refl 133) (by decide) ⟨by omega, by omega⟩ (fun c130 => ?_) (fun c130 => ?_)
                        · exact Ev.vret dX8_takesStrand_199 rfl ((by first | exact ⟨rfl, tk_n ((mz.w (by omega)).w (by omega)) e hI_eq⟩ | omega))
                        · refine Ev.iconst dX8_takesStrand_133 (Eq.refl 134) ?_
                          refine Ev.is3 dX8_takesStrand_134 (Eq.refl 135) (by decide) rfl ?_
                          first | omega | exact LOOP ⟨by rw [hSS]; omega, by omega, by omega, c60, c74, by omega, c115, c98, c106⟩ _ 0 _ rfl (by omega) hR ((mz.w (by omega)).w (by omega)) hI_eq (by rw [hI_nk (by omega), hI_nk (by omega)]; exact g8) (by rw [hI_ni (by omega), hI_ni (by omega)]; exact d1) (fun i hi => by omega) (fun i hi => by rw [hI_ni (by omega), hI_ni (by omega)]; exact n6 i hi) (fun i c => by rw [hI_ni (by omega), hI_ni (by omega)]; exact g3 i)
              · refine Ev.iconst dX8_takesStrand_77 (Eq.refl 78) ?_
                refine Ev.goto' (pc' := 82) dX8_takesStrand_78 (by decide) ?_
                refine Ev.putI dX8_takesStrand_82 (Eq.refl 85) fp_X8_83 rfl rfl (Or.inr ⟨rfl, by omega⟩) ?_
                refine Ev.aload_n dX8_takesStrand_85 (Eq.refl 86) rfl ?_
                refine Ev.aload_n dX8_takesStrand_86 (Eq.refl 87) rfl ?_
                refine Ev.getI dX8_takesStrand_87 (Eq.refl 90) fg_X8_83 rfl rfl ?_
                rw [hI_eq]
                refine Ev.if_eq (tgt := 122) dX8_takesStrand_90 (Eq.refl 93) (by decide) ⟨by omega, by omega⟩ (fun c90 => ?_) (fun c90 => ?_)
                · refine Ev.iconst dX8_takesStrand_122 (Eq.refl 123) ?_
                  refine Ev.putI dX8_takesStrand_123 (Eq.refl 126) fp_X8_83 rfl rfl (Or.inr ⟨rfl, by omega⟩) ?_
                  refine Ev.aload_n dX8_takesStrand_126 (Eq.refl 127) rfl ?_
                  refine Ev.getI dX8_takesStrand_127 (Eq.refl 130) fg_X8_83 rfl rfl ?_
                  rw [hI_eq]
                  refine Ev.if_eq (tgt := 199) dX8_takesStrand_130 (Eq.refl 133) (by decide) ⟨by omega, by omega⟩ (fun c130 => ?_) (fun c130 => ?_)
                  · exact Ev.vret dX8_takesStrand_199 rfl ((by first | exact ⟨rfl, tk_n ((mz.w (by omega)).w (by omega)) e hI_eq⟩ | omega))
                  · refine Ev.iconst dX8_takesStrand_133 (Eq.refl 134) ?_
                    refine Ev.is3 dX8_takesStrand_134 (Eq.refl 135) (by decide) rfl ?_
                    first | omega | exact LOOP ⟨by rw [hSS]; omega, by omega, by omega, c60, c74, by omega, c115, c98, c106⟩ _ 0 _ rfl (by omega) hR ((mz.w (by omega)).w (by omega)) hI_eq (by rw [hI_nk (by omega), hI_nk (by omega)]; exact g8) (by rw [hI_ni (by omega), hI_ni (by omega)]; exact d1) (fun i hi => by omega) (fun i hi => by rw [hI_ni (by omega), hI_ni (by omega)]; exact n6 i hi) (fun i c => by rw [hI_ni (by omega), hI_ni (by omega)]; exact g3 i)
                · refine Ev.aload_n dX8_takesStrand_93 (Eq.refl 94) rfl ?_
                  refine Ev.iload_n dX8_takesStrand_94 (Eq.refl 95) rfl ?_
                  refine Ev.cv1E dX8_takesStrand_95 (Eq.refl 98) cw_X8_106 (Nat.le_of_ble_eq_true rfl) (by decide) rfl rfl rfl (Nat.le_of_ble_eq_true rfl) (hasR _ a (by omega)) ?_
                  refine Ev.if_eqB (tgt := 122) dX8_takesStrand_98 (Eq.refl 101) (by decide) (fun c98 => ?_) (fun c98 => ?_)
                  · have e := rn (fun z => c98 z.2.2.2.2.2.2.2.1)
                    refine Ev.iconst dX8_takesStrand_122 (Eq.refl 123) ?_
                    refine Ev.putI dX8_takesStrand_123 (Eq.refl 126) fp_X8_83 rfl rfl (Or.inr ⟨rfl, by omega⟩) ?_
                    refine Ev.aload_n dX8_takesStrand_126 (Eq.refl 127) rfl ?_
                    refine Ev.getI dX8_takesStrand_127 (Eq.refl 130) fg_X8_83 rfl rfl ?_
                    rw [hI_eq]
                    refine Ev.if_eq (tgt := 199) dX8_takesStrand_130 (Eq.refl 133) (by decide) ⟨by omega, by omega⟩ (fun c130 => ?_) (fun c130 => ?_)
                    · exact Ev.vret dX8_takesStrand_199 rfl ((by first | exact ⟨rfl, tk_n ((mz.w (by omega)).w (by omega)) e hI_eq⟩ | omega))
                    · refine Ev.iconst dX8_takesStrand_133 (Eq.refl 134) ?_
                      refine Ev.is3 dX8_takesStrand_134 (Eq.refl 135) (by decide) rfl ?_
                      first | omega | exact LOOP ⟨by rw [hSS]; omega, by omega, by omega, c60, c74, by omega, c115, c98, c106⟩ _ 0 _ rfl (by omega) hR ((mz.w (by omega)).w (by omega)) hI_eq (by rw [hI_nk (by omega), hI_nk (by omega)]; exact g8) (by rw [hI_ni (by omega), hI_ni (by omega)]; exact d1) (fun i hi => by omega) (fun i hi => by rw [hI_ni (by omega), hI_ni (by omega)]; exact n6 i hi) (fun i c => by rw [hI_ni (by omega), hI_ni (by omega)]; exact g3 i)
                  · refine Ev.aload_n dX8_takesStrand_101 (Eq.refl 102) rfl ?_
                    refine Ev.iload_n dX8_takesStrand_102 (Eq.refl 103) rfl ?_
                    refine Ev.cv1E dX8_takesStrand_103 (Eq.refl 106) cw_X8_106 (Nat.le_of_ble_eq_true rfl) (by decide) rfl rfl rfl (Nat.le_of_ble_eq_true rfl) (hasR _ b (by omega)) ?_
                    refine Ev.if_eqB (tgt := 122) dX8_takesStrand_106 (Eq.refl 109) (by decide) (fun c106 => ?_) (fun c106 => ?_)
                    · have e := rn (fun z => c106 z.2.2.2.2.2.2.2.2)
                      refine Ev.iconst dX8_takesStrand_122 (Eq.refl 123) ?_
                      refine Ev.putI dX8_takesStrand_123 (Eq.refl 126) fp_X8_83 rfl rfl (Or.inr ⟨rfl, by omega⟩) ?_
                      refine Ev.aload_n dX8_takesStrand_126 (Eq.refl 127) rfl ?_
                      refine Ev.getI dX8_takesStrand_127 (Eq.refl 130) fg_X8_83 rfl rfl ?_
                      rw [hI_eq]
                      refine Ev.if_eq (tgt := 199) dX8_takesStrand_130 (Eq.refl 133) (by decide) ⟨by omega, by omega⟩ (fun c130 => ?_) (fun c130 => ?_)
                      · exact Ev.vret dX8_takesStrand_199 rfl ((by first | exact ⟨rfl, tk_n ((mz.w (by omega)).w (by omega)) e hI_eq⟩ | omega))
                      · refine Ev.iconst dX8_takesStrand_133 (Eq.refl 134) ?_
                        refine Ev.is3 dX8_takesStrand_134 (Eq.refl 135) (by decide) rfl ?_
                        first | omega | exact LOOP ⟨by rw [hSS]; omega, by omega, by omega, c60, c74, by omega, c115, c98, c106⟩ _ 0 _ rfl (by omega) hR ((mz.w (by omega)).w (by omega)) hI_eq (by rw [hI_nk (by omega), hI_nk (by omega)]; exact g8) (by rw [hI_ni (by omega), hI_ni (by omega)]; exact d1) (fun i hi => by omega) (fun i hi => by rw [hI_ni (by omega), hI_ni (by omega)]; exact n6 i hi) (fun i c => by rw [hI_ni (by omega), hI_ni (by omega)]; exact g3 i)
                    · refine Ev.aload_n dX8_takesStrand_109 (Eq.refl 110) rfl ?_
                      refine Ev.iload_n dX8_takesStrand_110 (Eq.refl 111) rfl ?_
                      refine Ev.iload_n dX8_takesStrand_111 (Eq.refl 112) rfl ?_
                      refine Ev.cv2E dX8_takesStrand_112 (Eq.refl 115) cw_X8_109 (Nat.le_of_ble_eq_true rfl) (by decide) rfl rfl rfl (Nat.le_of_ble_eq_true rfl) (tieR _ (by omega)) ?_
                      refine Ev.if_neB (tgt := 122) dX8_takesStrand_115 (Eq.refl 118) (by decide) (fun c115 => ?_) (fun c115 => ?_)
                      · have e := rn (fun z => z.2.2.2.2.2.2.1 c115)
                        refine Ev.iconst dX8_takesStrand_122 (Eq.refl 123) ?_
                        refine Ev.putI dX8_takesStrand_123 (Eq.refl 126) fp_X8_83 rfl rfl (Or.inr ⟨rfl, by omega⟩) ?_
                        refine Ev.aload_n dX8_takesStrand_126 (Eq.refl 127) rfl ?_
                        refine Ev.getI dX8_takesStrand_127 (Eq.refl 130) fg_X8_83 rfl rfl ?_
                        rw [hI_eq]
                        refine Ev.if_eq (tgt := 199) dX8_takesStrand_130 (Eq.refl 133) (by decide) ⟨by omega, by omega⟩ (fun c130 => ?_) (fun c130 => ?_)
                        · exact Ev.vret dX8_takesStrand_199 rfl ((by first | exact ⟨rfl, tk_n ((mz.w (by omega)).w (by omega)) e hI_eq⟩ | omega))
                        · refine Ev.iconst dX8_takesStrand_133 (Eq.refl 134) ?_
                          refine Ev.is3 dX8_takesStrand_134 (Eq.refl 135) (by decide) rfl ?_
                          first | omega | exact LOOP ⟨by rw [hSS]; omega, by omega, by omega, c60, c74, by omega, c115, c98, c106⟩ _ 0 _ rfl (by omega) hR ((mz.w (by omega)).w (by omega)) hI_eq (by rw [hI_nk (by omega), hI_nk (by omega)]; exact g8) (by rw [hI_ni (by omega), hI_ni (by omega)]; exact d1) (fun i hi => by omega) (fun i hi => by rw [hI_ni (by omega), hI_ni (by omega)]; exact n6 i hi) (fun i c => by rw [hI_ni (by omega), hI_ni (by omega)]; exact g3 i)
                      · refine Ev.iconst dX8_takesStrand_118 (Eq.refl 119) ?_
                        refine Ev.goto' (pc' := 123) dX8_takesStrand_119 (by decide) ?_
                        refine Ev.putI dX8_takesStrand_123 (Eq.refl 126) fp_X8_83 rfl rfl (Or.inr ⟨rfl, by omega⟩) ?_
                        refine Ev.aload_n dX8_takesStrand_126 (Eq.refl 127) rfl ?_
                        refine Ev.getI dX8_takesStrand_127 (Eq.refl 130) fg_X8_83 rfl rfl ?_
                        rw [hI_eq]
                        refine Ev.if_eq (tgt := 199) dX8_takesStrand_130 (Eq.refl 133) (by decide) ⟨by omega, by omega⟩ (fun c130 => ?_) (fun c130 => ?_)
                        · exact Ev.vret dX8_takesStrand_199 rfl ((by first | exact ⟨rfl, tk_n ((mz.w (by omega)).w (by omega)) e hI_eq⟩ | omega))
                        · refine Ev.iconst dX8_takesStrand_133 (Eq.refl 134) ?_
                          refine Ev.is3 dX8_takesStrand_134 (Eq.refl 135) (by decide) rfl ?_
                          first | omega | exact LOOP ⟨by rw [hSS]; omega, by omega, by omega, c60, c74, by omega, c115, c98, c106⟩ _ 0 _ rfl (by omega) hR ((mz.w (by omega)).w (by omega)) hI_eq (by rw [hI_nk (by omega), hI_nk (by omega)]; exact g8) (by rw [hI_ni (by omega), hI_ni (by omega)]; exact d1) (fun i hi => by omega) (fun i hi => by rw [hI_ni (by omega), hI_ni (by omega)]; exact n6 i hi) (fun i c => by rw [hI_ni (by omega), hI_ni (by omega)]; exact g3 i)
  refine Ev.aload_n dX8_takesStrand_0 (Eq.refl 1) rfl ?_
  refine Ev.iconst dX8_takesStrand_1 (Eq.refl 2) ?_
  refine Ev.cv1V dX8_takesStrand_2 (Eq.refl 5) cw_X8_99 (Nat.le_of_ble_eq_true rfl) (by decide) rfl rfl rfl (Nat.le_of_ble_eq_true rfl) (m_takesNumbers (m := 4) hR hT h8 h9 hp hb (by omega)) (fun g2 hp2 => ?_)
  obtain ⟨p', b', y1, y2, y3, y4, y5, y6, y7⟩ := hp2
  have y7 := y7 rfl
  rw [show cont t L 4 0 p = pNs t L 4 p from rfl] at y7
  have hR : MOk g2.2.2 := by rw [y1.1]; exact hR
  have e3 : ∀ j, g2.1 3 j = h.1 3 j := fun j => y1.2.1 _ _ (by omega) (by omega)
  cases hpn : pNs t L 4 p with
  | none => rw [hpn] at y7; exact TN _ hR y1.z (y1.2.2.2.trans y7) (resI_n (c := 115) hpn)
  | some r => rw [hpn] at y7; exact TS _ p' r hR y1.z e3 (y1.2.2.2.trans y7.1) y1.2.2.1 hpn y7.2.1 ⟨y2, y3⟩ (fun i hi => by have := y7.2.2 i (by omega); rw [Nat.zero_add] at this; exact this)
