/-! The model: laysHung -/
def GW (v : Nv) (w : Int) (k : Nat) : Prop := vH v k = true ∧ (k : Int) ≠ w
def HM (v : Nv) (G : Nat → Prop) (g : Hp) : Prop := (∀ j, j < vJ v → g.1 7 j = 0 ∨ g.1 7 j = 1) ∧ (∀ j, j < vJ v → vF v j = false → g.1 7 j = 1) ∧ ∀ j, j < vJ v → g.1 7 j = 1 → hg v G j
def hmc (v : Nv) (g : Hp) : Nat := cnt (fun j => decide (g.1 7 j = 1)) (vJ v)
theorem HM.done {v : Nv} {G : Nat → Prop} {g : Hp} (hv : VOk v) (h : HM v G g) (hc : ∀ s, s < vS v → G s → (g.1 7 (vA v s) = 1 ↔ g.1 7 (vB v s) = 1)) : ∀ j, j < vJ v → g.1 7 j = bi (hg v G j) := by
  intro j hj
  have key : hg v G j ↔ g.1 7 j = 1 := by
    constructor
    · intro q
      have := q (fun i => i < vJ v → g.1 7 i = 1) ⟨fun i hi hf _ => h.2.1 i hi hf, fun s hs hG => by
        have b := hv.2.2.2.1 s hs
        have := hc s hs hG
        exact ⟨fun z _ => this.mp (z b.1), fun z _ => this.mpr (z b.2.1)⟩⟩
      exact this hj
    · exact fun q => h.2.2 j hj q
  rcases h.1 j hj with z | z
  · rw [z, bi_f (fun q => by have := key.mp q; omega)]
  · rw [z, bi_t (key.mpr z)]
theorem HM.add {v : Nv} {G : Nat → Prop} {g : Hp} {s : Nat} (hv : VOk v) (h : HM v G g) (hs : s < vS v) (hG : G s) (hne : g.1 7 (vA v s) ≠ g.1 7 (vB v s)) : HM v G (hI (hI g 7 (vA v s) 1) 7 (vB v s) 1) ∧ hmc v g < hmc v (hI (hI g 7 (vA v s) 1) 7 (vB v s) 1) := by
  have b := hv.2.2.2.1 s hs
  have ra := h.1 _ b.1
  have rb := h.1 _ b.2.1
  have rd : ∀ j, (hI (hI g 7 (vA v s) 1) 7 (vB v s) 1).1 7 j = if j = vB v s ∨ j = vA v s then 1 else g.1 7 j := fun j => by
    rw [hI_rd, hI_rd]
    grind
  have hor : hg v G (vA v s) ∧ hg v G (vB v s) := by
    rcases (by omega : g.1 7 (vA v s) = 1 ∨ g.1 7 (vB v s) = 1) with z | z
    · have q := h.2.2 _ b.1 z
      exact ⟨q, fun Y hY => (hY.2 s hs hG).mp (q Y hY)⟩
    · have q := h.2.2 _ b.2.1 z
      exact ⟨fun Y hY => (hY.2 s hs hG).mpr (q Y hY), q⟩
  refine ⟨⟨fun j hj => ?_, fun j hj hf => ?_, fun j hj q => ?_⟩, ?_⟩
  · rw [rd]; split
    · exact Or.inr rfl
    · exact h.1 j hj
  · rw [rd]; split
    · rfl
    · exact h.2.1 j hj hf
  · rw [rd] at q
    by_cases e : j = vB v s ∨ j = vA v s
    · rcases e with rfl | rfl
      · exact hor.2
      · exact hor.1
    · rw [if_neg e] at q; exact h.2.2 j hj q
  · refine cnt_lt _ (fun j _ q => ?_) ?_
    · have q := of_decide_eq_true q
      refine decide_eq_true ?_
      rw [rd]; split
      · rfl
      · exact q
    · rcases (by omega : g.1 7 (vA v s) = 0 ∨ g.1 7 (vB v s) = 0) with z | z
      · exact ⟨vA v s, b.1, decide_eq_false (by omega), decide_eq_true (by rw [rd, if_pos (Or.inr rfl)])⟩
      · exact ⟨vB v s, b.2.1, decide_eq_false (by omega), decide_eq_true (by rw [rd, if_pos (Or.inl rfl)])⟩
theorem aH_all {v : Nv} {G : Nat → Prop} : aH v G ↔ ∀ j, j < vJ v → hg v G j := ⟨fun q j hj => by
  cases e : vF v j
  · exact fun Y hY => hY.1 j hj e
  · exact q j hj e, fun q j hj _ => q j hj⟩
theorem m_laysHung {h : Hp} {w : Int} (hR : MOk h.2.2) (ok : GOk (h.1 2)) (hw : -4 ≤ w ∧ w ≤ 100) : Ev mX8_laysHung 2 0 (entL [.ref 0, iv w] 5) [] h (PI (fun x h' => Fr (fun i => i = 7) h h' ∧ x = bi (aH (gV (h.1 2)) (GW (gV (h.1 2)) w)) ∧ ∀ j, j < vJ (gV (h.1 2)) → h'.1 7 j = bi (hg (gV (h.1 2)) (GW (gV (h.1 2)) w) j))) := by
  show Ev mX8_laysHung 2 0 [some (.ref 0), some (iv w), none, none, none] [] h _
  have hv := ok.2.2.2.2
  have eJ := gJ ok
  have eS := gS ok
  have bJ := ok.1
  have bS := ok.2.1
  generalize hve : gV (h.1 2) = v at *
  have fr : ∀ g, Fr (fun i => i = 7) h g → MOk g.2.2 ∧ g.1 2 = h.1 2 := fun g hF => ⟨by rw [hF.2.2]; exact hR, funext fun j => hF.1 2 (by omega) j⟩
  -- the answer
  have LA : ∀ (g : Hp), Fr (fun i => i = 7) h g → (∀ j, j < vJ v → g.1 7 j = bi (hg v (GW v w) j)) → ∀ (m k : Nat) (y : Int), vJ v - k = m → k ≤ vJ v → y = bi (∀ j, j < k → hg v (GW v w) j) → Ev mX8_laysHung 2 147 [some (.ref 0), some (iv w), some (iv 0), some (iv y), some (iv (k : Int))] [] g (PI (fun x h' => Fr (fun i => i = 7) h h' ∧ x = bi (aH v (GW v w)) ∧ ∀ j, j < vJ v → h'.1 7 j = bi (hg v (GW v w) j))) := by
    intro g hF hg7 m
    obtain ⟨hR, e2⟩ := fr g hF
    have g20 : g.1 2 0 = (vJ v : Int) := by rw [e2]; exact eJ
    induction m using Nat.strongRecOn with
    | ind m ih =>
      intro k y hm hk hy
      have y01 := bi01 (∀ j, j < k → hg v (GW v w) j)
      rw [← hy] at y01
      by_cases hk2 : k < vJ v
      · have ek := hg7 k hk2
        have b01 := bi01 (hg v (GW v w) k)
        have nx1 : y ≠ 0 → hg v (GW v w) k → (1 : Int) = bi (∀ j, j < k + 1 → hg v (GW v w) j) := fun z1 z2 => (bi_t (fun j hj => if e : j = k then by rw [e]; exact z2 else bi_1 (hy.symm.trans (by omega)) j (by omega))).symm
        have nx0 : y = 0 ∨ ¬ hg v (GW v w) k → (0 : Int) = bi (∀ j, j < k + 1 → hg v (GW v w) j) := fun z => (bi_f (fun q => by rcases z with z | z; exact bi_0 (hy.symm.trans z) (fun j hj => q j (by omega)); exact z (q k (by omega)))).symm
        refine Ev.iload dX8_laysHung_147 (Eq.refl 149) rfl ?_
        refine Ev.aload_n dX8_laysHung_149 (Eq.refl 150) rfl ?_
        refine Ev.getR dX8_laysHung_150 (Eq.refl 153) fg_X8_13 rfl rfl (rX8_3 hR) ?_
        refine Ev.iconst dX8_laysHung_153 (Eq.refl 154) ?_
        refine Ev.iaload dX8_laysHung_154 (Eq.refl 155) rfl rfl (by omega) (by decide) (show (0 : Int).toNat = 0 from rfl) ?_
        rw [g20]
        refine Ev.icmp_ge (tgt := 184) dX8_laysHung_155 (Eq.refl 158) (by decide) ⟨by omega, by omega⟩ ⟨by omega, by omega⟩ (fun c155 => ?_) (fun c155 => ?_)
        · omega
        · refine Ev.iload_n dX8_laysHung_158 (Eq.refl 159) rfl ?_
          refine Ev.if_eq (tgt := 176) dX8_laysHung_159 (Eq.refl 162) (by decide) ⟨by omega, by omega⟩ (fun c159 => ?_) (fun c159 => ?_)
          · refine Ev.iconst dX8_laysHung_176 (Eq.refl 177) ?_
            refine Ev.is3 dX8_laysHung_177 (Eq.refl 178) (by decide) rfl ?_
            refine Ev.ii4 dX8_laysHung_178 (Eq.refl 181) (by decide) rfl ?_
            refine Ev.goto' (pc' := 147) dX8_laysHung_181 (by decide) ?_
            first | exact ih _ (by omega) (k + 1) _ rfl (by omega) (nx1 c159 (Classical.byContradiction fun z => c169 (bi_f z))) | exact ih _ (by omega) (k + 1) _ rfl (by omega) (nx0 (Or.inl c159)) | exact ih _ (by omega) (k + 1) _ rfl (by omega) (nx0 (Or.inr (bi_0 c169)))
          · refine Ev.aload_n dX8_laysHung_162 (Eq.refl 163) rfl ?_
            refine Ev.getR dX8_laysHung_163 (Eq.refl 166) fg_X8_29 rfl rfl (rX8_11 hR) ?_
            refine Ev.iload dX8_laysHung_166 (Eq.refl 168) rfl ?_
            refine Ev.zaload dX8_laysHung_168 (Eq.refl 169) rfl rfl (by omega) (by decide) (by first | with_reducible exact Int.toNat_natCast _ | exact Eq.refl _) ?_
            rw [ek]
            refine Ev.if_eq (tgt := 176) dX8_laysHung_169 (Eq.refl 172) (by decide) (biR _) (fun c169 => ?_) (fun c169 => ?_)
            · refine Ev.iconst dX8_laysHung_176 (Eq.refl 177) ?_
              refine Ev.is3 dX8_laysHung_177 (Eq.refl 178) (by decide) rfl ?_
              refine Ev.ii4 dX8_laysHung_178 (Eq.refl 181) (by decide) rfl ?_
              refine Ev.goto' (pc' := 147) dX8_laysHung_181 (by decide) ?_
              first | exact ih _ (by omega) (k + 1) _ rfl (by omega) (nx1 c159 (Classical.byContradiction fun z => c169 (bi_f z))) | exact ih _ (by omega) (k + 1) _ rfl (by omega) (nx0 (Or.inl c159)) | exact ih _ (by omega) (k + 1) _ rfl (by omega) (nx0 (Or.inr (bi_0 c169)))
            · refine Ev.iconst dX8_laysHung_172 (Eq.refl 173) ?_
              refine Ev.goto' (pc' := 177) dX8_laysHung_173 (by decide) ?_
              refine Ev.is3 dX8_laysHung_177 (Eq.refl 178) (by decide) rfl ?_
              refine Ev.ii4 dX8_laysHung_178 (Eq.refl 181) (by decide) rfl ?_
              refine Ev.goto' (pc' := 147) dX8_laysHung_181 (by decide) ?_
              first | exact ih _ (by omega) (k + 1) _ rfl (by omega) (nx1 c159 (Classical.byContradiction fun z => c169 (bi_f z))) | exact ih _ (by omega) (k + 1) _ rfl (by omega) (nx0 (Or.inl c159)) | exact ih _ (by omega) (k + 1) _ rfl (by omega) (nx0 (Or.inr (bi_0 c169)))
      · have e : k = vJ v := by omega
        subst e
        refine Ev.iload dX8_laysHung_147 (Eq.refl 149) rfl ?_
        refine Ev.aload_n dX8_laysHung_149 (Eq.refl 150) rfl ?_
        refine Ev.getR dX8_laysHung_150 (Eq.refl 153) fg_X8_13 rfl rfl (rX8_3 hR) ?_
        refine Ev.iconst dX8_laysHung_153 (Eq.refl 154) ?_
        refine Ev.iaload dX8_laysHung_154 (Eq.refl 155) rfl rfl (by omega) (by decide) (show (0 : Int).toNat = 0 from rfl) ?_
        rw [g20]
        refine Ev.icmp_ge (tgt := 184) dX8_laysHung_155 (Eq.refl 158) (by decide) ⟨by omega, by omega⟩ ⟨by omega, by omega⟩ (fun c155 => ?_) (fun c155 => ?_)
        · refine Ev.iload_n dX8_laysHung_184 (Eq.refl 185) rfl ?_
          exact Ev.zret dX8_laysHung_185 rfl (by first | exact bi01 _ | exact Or.inl rfl | exact Or.inr rfl | omega) (⟨_, rfl, hF, hy.trans (bi_c aH_all.symm), hg7⟩)
        · omega
  have FIN : ∀ (g : Hp) (u u2 : Option Value), Fr (fun i => i = 7) h g → HM v (GW v w) g → (∀ s, s < vS v → GW v w s → (g.1 7 (vA v s) = 1 ↔ g.1 7 (vB v s) = 1)) → Ev mX8_laysHung 2 39 [some (.ref 0), some (iv w), some (iv 0), u, u2] [] g (PI (fun x h' => Fr (fun i => i = 7) h h' ∧ x = bi (aH v (GW v w)) ∧ ∀ j, j < vJ v → h'.1 7 j = bi (hg v (GW v w) j))) := by
    intro g u u2 hF hM hc
    have hd := hM.done hv hc
    refine Ev.iload_n dX8_laysHung_39 (Eq.refl 40) rfl ?_
    refine Ev.if_eq (tgt := 142) dX8_laysHung_40 (Eq.refl 43) (by decide) ⟨by omega, by omega⟩ (fun c40 => ?_) (fun c40 => ?_)
    · refine Ev.iconst dX8_laysHung_142 (Eq.refl 143) ?_
      refine Ev.is3 dX8_laysHung_143 (Eq.refl 144) (by decide) rfl ?_
      refine Ev.iconst dX8_laysHung_144 (Eq.refl 145) ?_
      refine Ev.is4 dX8_laysHung_145 (Eq.refl 147) (by decide) rfl ?_
      exact LA g hF hd _ 0 _ rfl (by omega) (bi_t (fun j hj => by omega)).symm
    · omega
  -- passes
  have LP : ∀ (m : Nat) (g : Hp) (y : Int) (u u2 : Option Value), vJ v - hmc v g = m → Fr (fun i => i = 7) h g → HM v (GW v w) g → (y = 1 ∨ (y = 0 ∧ ∀ s, s < vS v → GW v w s → (g.1 7 (vA v s) = 1 ↔ g.1 7 (vB v s) = 1))) → Ev mX8_laysHung 2 39 [some (.ref 0), some (iv w), some (iv y), u, u2] [] g (PI (fun x h' => Fr (fun i => i = 7) h h' ∧ x = bi (aH v (GW v w)) ∧ ∀ j, j < vJ v → h'.1 7 j = bi (hg v (GW v w) j))) := by
    intro m
    induction m using Nat.strongRecOn with
    | ind m ih =>
      intro g y u u2 hm hF hM hy
      rcases hy with y1 | ⟨y0, hcl⟩
      · subst y1
        have hc0 : hmc v g ≤ vJ v := cnt_le _ _
        have IN : ∀ (w2 k : Nat) (f : Hp) (z : Int) (u2 : Option Value), vS v - k = w2 → k ≤ vS v → Fr (fun i => i = 7) h f → HM v (GW v w) f → hmc v g ≤ hmc v f → (z = 1 ∧ hmc v g < hmc v f ∨ z = 0 ∧ ∀ s, s < k → GW v w s → (f.1 7 (vA v s) = 1 ↔ f.1 7 (vB v s) = 1)) → Ev mX8_laysHung 2 47 [some (.ref 0), some (iv w), some (iv z), some (iv (k : Int)), u2] [] f (PI (fun x h' => Fr (fun i => i = 7) h h' ∧ x = bi (aH v (GW v w)) ∧ ∀ j, j < vJ v → h'.1 7 j = bi (hg v (GW v w) j))) := by
          intro w2
          induction w2 using Nat.strongRecOn with
          | ind w2 iw =>
            intro k f z u2 hw2 hk hF hM hge hz
            obtain ⟨hR, e2⟩ := fr f hF
            have f21 : f.1 2 1 = (vS v : Int) := by rw [e2]; exact eS
            have okf : GOk (f.1 2) := by rw [e2]; exact ok
            have evf : gV (f.1 2) = v := by rw [e2]; exact hve
            by_cases hk2 : k < vS v
            · have b := hv.2.2.2.1 k hk2
              have ra := hM.1 _ b.1
              have rb := hM.1 _ b.2.1
              have hJ10 := hv.1
              have kl : k < vS (gV (f.1 2)) := by rw [evf]; exact hk2
              have cH := m_hangs (k := k) hR okf kl
              have cA := m_ofA (k := k) hR okf kl
              have cB := m_ofB (k := k) hR okf kl
              rw [evf] at cH cA cB
              have same : (GW v w k → (f.1 7 (vA v k) = 1 ↔ f.1 7 (vB v k) = 1)) → (z = 1 ∧ hmc v g < hmc v f ∨ z = 0 ∧ ∀ s, s < k + 1 → GW v w s → (f.1 7 (vA v s) = 1 ↔ f.1 7 (vB v s) = 1)) := fun q => by
                rcases hz with hz | ⟨z0, hz⟩
                · exact Or.inl hz
                · exact Or.inr ⟨z0, fun s hs hG => if e : s = k then by rw [e] at hG ⊢; exact q hG else hz s (by omega) hG⟩
              have nxt : (GW v w k → (f.1 7 (vA v k) = 1 ↔ f.1 7 (vB v k) = 1)) → ∀ u, Ev mX8_laysHung 2 47 [some (.ref 0), some (iv w), some (iv z), some (iv ((k : Int) + 1)), u] [] f _ := fun q u => iw _ (by omega) (k + 1) f z u rfl (by omega) hF hM hge (same q)
              have R7 : ∀ a x, (hI f 7 a x).2.2 = f.2.2 := fun _ _ => rfl
              have f2 : ∀ a x, (hI f 7 a x).1 2 = f.1 2 := fun a x => funext fun j => hI_ni (by omega)
              have cB2 : Ev mX8_of 0 0 (entL [.ref 0, iv (k : Int), iv 1] 3) [] (hI f 7 (vA v k) 1) (PE (vB v k : Nat) (hI f 7 (vA v k) 1)) := by
                have := m_ofB (h := hI f 7 (vA v k) 1) (k := k) hR (by rw [f2]; exact okf) (by rw [f2]; exact kl)
                rw [f2, evf] at this; exact this
              refine Ev.iload_n dX8_laysHung_47 (Eq.refl 48) rfl ?_
              refine Ev.aload_n dX8_laysHung_48 (Eq.refl 49) rfl ?_
              refine Ev.getR dX8_laysHung_49 (Eq.refl 52) fg_X8_13 rfl rfl (rX8_3 hR) ?_
              refine Ev.iconst dX8_laysHung_52 (Eq.refl 53) ?_
              refine Ev.iaload dX8_laysHung_53 (Eq.refl 54) rfl rfl (by omega) (by decide) (show (1 : Int).toNat = 1 from rfl) ?_
              rw [f21]
              refine Ev.icmp_ge (tgt := 139) dX8_laysHung_54 (Eq.refl 57) (by decide) ⟨by omega, by omega⟩ ⟨by omega, by omega⟩ (fun c54 => ?_) (fun c54 => ?_)
              · omega
              · refine Ev.aload_n dX8_laysHung_57 (Eq.refl 58) rfl ?_
                refine Ev.iload_n dX8_laysHung_58 (Eq.refl 59) rfl ?_
                refine Ev.cv1E dX8_laysHung_59 (Eq.refl 62) cw_X8_137 (Nat.le_of_ble_eq_true rfl) (by decide) rfl rfl rfl (Nat.le_of_ble_eq_true rfl) (cH) ?_
                refine Ev.if_eqB (tgt := 99) dX8_laysHung_62 (Eq.refl 65) (by decide) (fun c62 => ?_) (fun c62 => ?_)
                · have q : GW v w k → (f.1 7 (vA v k) = 1 ↔ f.1 7 (vB v k) = 1) := fun z => absurd z.1 c62
                  refine Ev.iconst dX8_laysHung_99 (Eq.refl 100) ?_
                  refine Ev.is4 dX8_laysHung_100 (Eq.refl 102) (by decide) rfl ?_
                  refine Ev.iload dX8_laysHung_102 (Eq.refl 104) rfl ?_
                  refine Ev.if_eq (tgt := 133) dX8_laysHung_104 (Eq.refl 107) (by decide) ⟨by decide, by decide⟩ (fun _ => ?_) (fun c => absurd (by decide) c)
                  refine Ev.ii3 dX8_laysHung_133 (Eq.refl 136) (by decide) rfl ?_
                  refine Ev.goto' (pc' := 47) dX8_laysHung_136 (by decide) ?_
                  first | exact nxt q _ | omega | exact iw _ (by omega) (k + 1) _ _ _ rfl (by omega) ((hF.wI rfl).wI rfl) ad.1 (Nat.le_of_lt (Nat.lt_of_le_of_lt hge ad.2)) (Or.inl ⟨rfl, Nat.lt_of_le_of_lt hge ad.2⟩)
                · refine Ev.iload_n dX8_laysHung_65 (Eq.refl 66) rfl ?_
                  refine Ev.iload_n dX8_laysHung_66 (Eq.refl 67) rfl ?_
                  refine Ev.icmp_eq (tgt := 99) dX8_laysHung_67 (Eq.refl 70) (by decide) ⟨by omega, by omega⟩ ⟨by omega, by omega⟩ (fun c67 => ?_) (fun c67 => ?_)
                  · have q : GW v w k → (f.1 7 (vA v k) = 1 ↔ f.1 7 (vB v k) = 1) := fun z => absurd c67 z.2
                    refine Ev.iconst dX8_laysHung_99 (Eq.refl 100) ?_
                    refine Ev.is4 dX8_laysHung_100 (Eq.refl 102) (by decide) rfl ?_
                    refine Ev.iload dX8_laysHung_102 (Eq.refl 104) rfl ?_
                    refine Ev.if_eq (tgt := 133) dX8_laysHung_104 (Eq.refl 107) (by decide) ⟨by decide, by decide⟩ (fun _ => ?_) (fun c => absurd (by decide) c)
                    refine Ev.ii3 dX8_laysHung_133 (Eq.refl 136) (by decide) rfl ?_
                    refine Ev.goto' (pc' := 47) dX8_laysHung_136 (by decide) ?_
                    first | exact nxt q _ | omega | exact iw _ (by omega) (k + 1) _ _ _ rfl (by omega) ((hF.wI rfl).wI rfl) ad.1 (Nat.le_of_lt (Nat.lt_of_le_of_lt hge ad.2)) (Or.inl ⟨rfl, Nat.lt_of_le_of_lt hge ad.2⟩)
                  · refine Ev.aload_n dX8_laysHung_70 (Eq.refl 71) rfl ?_
                    refine Ev.getR dX8_laysHung_71 (Eq.refl 74) fg_X8_29 rfl rfl (rX8_11 hR) ?_
                    refine Ev.aload_n dX8_laysHung_74 (Eq.refl 75) rfl ?_
                    refine Ev.iload_n dX8_laysHung_75 (Eq.refl 76) rfl ?_
                    refine Ev.iconst dX8_laysHung_76 (Eq.refl 77) ?_
                    refine Ev.cv2E dX8_laysHung_77 (Eq.refl 80) cw_X8_131 (Nat.le_of_ble_eq_true rfl) (by decide) rfl rfl rfl (Nat.le_of_ble_eq_true rfl) (cA) ?_
                    refine Ev.zaload dX8_laysHung_80 (Eq.refl 81) rfl rfl (by omega) (by decide) (by first | with_reducible exact Int.toNat_natCast _ | exact Eq.refl _) ?_
                    refine Ev.aload_n dX8_laysHung_81 (Eq.refl 82) rfl ?_
                    refine Ev.getR dX8_laysHung_82 (Eq.refl 85) fg_X8_29 rfl rfl (rX8_11 hR) ?_
                    refine Ev.aload_n dX8_laysHung_85 (Eq.refl 86) rfl ?_
                    refine Ev.iload_n dX8_laysHung_86 (Eq.refl 87) rfl ?_
                    refine Ev.iconst dX8_laysHung_87 (Eq.refl 88) ?_
                    refine Ev.cv2E dX8_laysHung_88 (Eq.refl 91) cw_X8_131 (Nat.le_of_ble_eq_true rfl) (by decide) rfl rfl rfl (Nat.le_of_ble_eq_true rfl) (cB) ?_
                    refine Ev.zaload dX8_laysHung_91 (Eq.refl 92) rfl rfl (by omega) (by decide) (by first | with_reducible exact Int.toNat_natCast _ | exact Eq.refl _) ?_
                    refine Ev.icmp_eq (tgt := 99) dX8_laysHung_92 (Eq.refl 95) (by decide) ⟨by omega, by omega⟩ ⟨by omega, by omega⟩ (fun c92 => ?_) (fun c92 => ?_)
                    · have q : GW v w k → (f.1 7 (vA v k) = 1 ↔ f.1 7 (vB v k) = 1) := fun _ => by rw [c92]
                      refine Ev.iconst dX8_laysHung_99 (Eq.refl 100) ?_
                      refine Ev.is4 dX8_laysHung_100 (Eq.refl 102) (by decide) rfl ?_
                      refine Ev.iload dX8_laysHung_102 (Eq.refl 104) rfl ?_
                      refine Ev.if_eq (tgt := 133) dX8_laysHung_104 (Eq.refl 107) (by decide) ⟨by decide, by decide⟩ (fun _ => ?_) (fun c => absurd (by decide) c)
                      refine Ev.ii3 dX8_laysHung_133 (Eq.refl 136) (by decide) rfl ?_
                      refine Ev.goto' (pc' := 47) dX8_laysHung_136 (by decide) ?_
                      first | exact nxt q _ | omega | exact iw _ (by omega) (k + 1) _ _ _ rfl (by omega) ((hF.wI rfl).wI rfl) ad.1 (Nat.le_of_lt (Nat.lt_of_le_of_lt hge ad.2)) (Or.inl ⟨rfl, Nat.lt_of_le_of_lt hge ad.2⟩)
                    · have ad := hM.add hv hk2 ⟨c62, c67⟩ c92
                      refine Ev.iconst dX8_laysHung_95 (Eq.refl 96) ?_
                      refine Ev.goto' (pc' := 100) dX8_laysHung_96 (by decide) ?_
                      refine Ev.is4 dX8_laysHung_100 (Eq.refl 102) (by decide) rfl ?_
                      refine Ev.iload dX8_laysHung_102 (Eq.refl 104) rfl ?_
                      refine Ev.if_eq (tgt := 133) dX8_laysHung_104 (Eq.refl 107) (by decide) ⟨by decide, by decide⟩ (fun c => absurd c (by decide)) (fun _ => ?_)
                      refine Ev.aload_n dX8_laysHung_107 (Eq.refl 108) rfl ?_
                      refine Ev.getR dX8_laysHung_108 (Eq.refl 111) fg_X8_29 rfl rfl (rX8_11 hR) ?_
                      refine Ev.aload_n dX8_laysHung_111 (Eq.refl 112) rfl ?_
                      refine Ev.iload_n dX8_laysHung_112 (Eq.refl 113) rfl ?_
                      refine Ev.iconst dX8_laysHung_113 (Eq.refl 114) ?_
                      refine Ev.cv2E dX8_laysHung_114 (Eq.refl 117) cw_X8_131 (Nat.le_of_ble_eq_true rfl) (by decide) rfl rfl rfl (Nat.le_of_ble_eq_true rfl) (cA) ?_
                      refine Ev.iconst dX8_laysHung_117 (Eq.refl 118) ?_
                      refine Ev.zastore dX8_laysHung_118 (Eq.refl 119) rfl rfl (by omega) (by decide) (by omega) (by first | with_reducible exact Int.toNat_natCast _ | exact Eq.refl _) ?_
                      refine Ev.aload_n dX8_laysHung_119 (Eq.refl 120) rfl ?_
                      refine Ev.getR dX8_laysHung_120 (Eq.refl 123) fg_X8_29 rfl rfl (rX8_11 hR) ?_
                      refine Ev.aload_n dX8_laysHung_123 (Eq.refl 124) rfl ?_
                      refine Ev.iload_n dX8_laysHung_124 (Eq.refl 125) rfl ?_
                      refine Ev.iconst dX8_laysHung_125 (Eq.refl 126) ?_
                      refine Ev.cv2E dX8_laysHung_126 (Eq.refl 129) cw_X8_131 (Nat.le_of_ble_eq_true rfl) (by decide) rfl rfl rfl (Nat.le_of_ble_eq_true rfl) (cB2) ?_
                      refine Ev.iconst dX8_laysHung_129 (Eq.refl 130) ?_
                      refine Ev.zastore dX8_laysHung_130 (Eq.refl 131) rfl rfl (by omega) (by decide) (by omega) (by first | with_reducible exact Int.toNat_natCast _ | exact Eq.refl _) ?_
                      refine Ev.iconst dX8_laysHung_131 (Eq.refl 132) ?_
                      refine Ev.is2 dX8_laysHung_132 (Eq.refl 133) (by decide) rfl ?_
                      refine Ev.ii3 dX8_laysHung_133 (Eq.refl 136) (by decide) rfl ?_
                      refine Ev.goto' (pc' := 47) dX8_laysHung_136 (by decide) ?_
                      first | exact nxt q _ | omega | exact iw _ (by omega) (k + 1) _ _ _ rfl (by omega) ((hF.wI rfl).wI rfl) ad.1 (Nat.le_of_lt (Nat.lt_of_le_of_lt hge ad.2)) (Or.inl ⟨rfl, Nat.lt_of_le_of_lt hge ad.2⟩)
            · have e : k = vS v := by omega
              subst e
              refine Ev.iload_n dX8_laysHung_47 (Eq.refl 48) rfl ?_
              refine Ev.aload_n dX8_laysHung_48 (Eq.refl 49) rfl ?_
              refine Ev.getR dX8_laysHung_49 (Eq.refl 52) fg_X8_13 rfl rfl (rX8_3 hR) ?_
              refine Ev.iconst dX8_laysHung_52 (Eq.refl 53) ?_
              refine Ev.iaload dX8_laysHung_53 (Eq.refl 54) rfl rfl (by omega) (by decide) (show (1 : Int).toNat = 1 from rfl) ?_
              rw [f21]
              refine Ev.icmp_ge (tgt := 139) dX8_laysHung_54 (Eq.refl 57) (by decide) ⟨by omega, by omega⟩ ⟨by omega, by omega⟩ (fun c54 => ?_) (fun c54 => ?_)
              · refine Ev.goto' (pc' := 39) dX8_laysHung_139 (by decide) ?_
                rcases hz with ⟨rfl, hz⟩ | ⟨rfl, hz⟩
                · have := cnt_le (fun j => decide (f.1 7 j = 1)) (vJ v)
                  have hfl : hmc v f ≤ vJ v := this
                  exact ih _ (by omega) f 1 _ _ rfl hF hM (Or.inl rfl)
                · exact FIN f _ _ hF hM hz
              · omega
        refine Ev.iload_n dX8_laysHung_39 (Eq.refl 40) rfl ?_
        refine Ev.if_eq (tgt := 142) dX8_laysHung_40 (Eq.refl 43) (by decide) ⟨by omega, by omega⟩ (fun c40 => ?_) (fun c40 => ?_)
        · omega
        · refine Ev.iconst dX8_laysHung_43 (Eq.refl 44) ?_
          refine Ev.is2 dX8_laysHung_44 (Eq.refl 45) (by decide) rfl ?_
          refine Ev.iconst dX8_laysHung_45 (Eq.refl 46) ?_
          refine Ev.is3 dX8_laysHung_46 (Eq.refl 47) (by decide) rfl ?_
          exact IN _ 0 g 0 _ rfl (by omega) hF hM (Nat.le_refl _) (Or.inr ⟨rfl, fun s hs => by omega⟩)
      · subst y0
        exact FIN g _ _ hF hM hcl
  -- to begin with
  have L0 : ∀ (m k : Nat) (g : Hp), vJ v - k = m → k ≤ vJ v → Fr (fun i => i = 7) h g → (∀ j, j < k → g.1 7 j = bi (¬ vF v j = true)) → Ev mX8_laysHung 2 2 [some (.ref 0), some (iv w), some (iv (k : Int)), none, none] [] g (PI (fun x h' => Fr (fun i => i = 7) h h' ∧ x = bi (aH v (GW v w)) ∧ ∀ j, j < vJ v → h'.1 7 j = bi (hg v (GW v w) j))) := by
    intro m
    induction m using Nat.strongRecOn with
    | ind m ih =>
      intro k g hm hk hF h7
      obtain ⟨hR, e2⟩ := fr g hF
      have g20 : g.1 2 0 = (vJ v : Int) := by rw [e2]; exact eJ
      by_cases hk2 : k < vJ v
      · have cF := m_isFree (h := g) (j := k) hR (by rw [e2]; exact ok) (by rw [e2, hve]; exact hk2)
        rw [e2, hve] at cF
        have hJ10 := hv.1
        refine Ev.iload_n dX8_laysHung_2 (Eq.refl 3) rfl ?_
        refine Ev.aload_n dX8_laysHung_3 (Eq.refl 4) rfl ?_
        refine Ev.getR dX8_laysHung_4 (Eq.refl 7) fg_X8_13 rfl rfl (rX8_3 hR) ?_
        refine Ev.iconst dX8_laysHung_7 (Eq.refl 8) ?_
        refine Ev.iaload dX8_laysHung_8 (Eq.refl 9) rfl rfl (by omega) (by decide) (show (0 : Int).toNat = 0 from rfl) ?_
        rw [g20]
        refine Ev.icmp_ge (tgt := 37) dX8_laysHung_9 (Eq.refl 12) (by decide) ⟨by omega, by omega⟩ ⟨by omega, by omega⟩ (fun c9 => ?_) (fun c9 => ?_)
        · omega
        · refine Ev.aload_n dX8_laysHung_12 (Eq.refl 13) rfl ?_
          refine Ev.getR dX8_laysHung_13 (Eq.refl 16) fg_X8_29 rfl rfl (rX8_11 hR) ?_
          refine Ev.iload_n dX8_laysHung_16 (Eq.refl 17) rfl ?_
          refine Ev.aload_n dX8_laysHung_17 (Eq.refl 18) rfl ?_
          refine Ev.iload_n dX8_laysHung_18 (Eq.refl 19) rfl ?_
          refine Ev.cv1E dX8_laysHung_19 (Eq.refl 22) cw_X8_134 (Nat.le_of_ble_eq_true rfl) (by decide) rfl rfl rfl (Nat.le_of_ble_eq_true rfl) (cF) ?_
          refine Ev.if_neB (tgt := 29) dX8_laysHung_22 (Eq.refl 25) (by decide) (fun c22 => ?_) (fun c22 => ?_)
          · have eb : bi (¬ vF v k = true) = 0 := bi_f (fun z => z c22)
            refine Ev.iconst dX8_laysHung_29 (Eq.refl 30) ?_
            refine Ev.zastore dX8_laysHung_30 (Eq.refl 31) rfl rfl (by omega) (by decide) (by omega) (by first | with_reducible exact Int.toNat_natCast _ | exact Eq.refl _) ?_
            refine Ev.ii2 dX8_laysHung_31 (Eq.refl 34) (by decide) rfl ?_
            refine Ev.goto' (pc' := 2) dX8_laysHung_34 (by decide) ?_
            exact ih _ (by omega) (k + 1) _ rfl (by omega) (hF.wI rfl) (fun j hj => if e : j = k then by rw [e, hI_eq, eb] else by rw [hI_nk e]; exact h7 j (by omega))
          · have eb : bi (¬ vF v k = true) = 1 := bi_t c22
            refine Ev.iconst dX8_laysHung_25 (Eq.refl 26) ?_
            refine Ev.goto' (pc' := 30) dX8_laysHung_26 (by decide) ?_
            refine Ev.zastore dX8_laysHung_30 (Eq.refl 31) rfl rfl (by omega) (by decide) (by omega) (by first | with_reducible exact Int.toNat_natCast _ | exact Eq.refl _) ?_
            refine Ev.ii2 dX8_laysHung_31 (Eq.refl 34) (by decide) rfl ?_
            refine Ev.goto' (pc' := 2) dX8_laysHung_34 (by decide) ?_
            exact ih _ (by omega) (k + 1) _ rfl (by omega) (hF.wI rfl) (fun j hj => if e : j = k then by rw [e, hI_eq, eb] else by rw [hI_nk e]; exact h7 j (by omega))
      · have e : k = vJ v := by omega
        subst e
        have hM : HM v (GW v w) g := ⟨fun j hj => by rw [h7 j hj]; exact bi01 _, fun j hj hf => by rw [h7 j hj]; exact bi_t (by rw [hf]; decide), fun j hj q => by rw [h7 j hj] at q; exact fun Y hY => hY.1 j hj (by cases z : vF v j with | false => rfl | true => exact absurd z (bi_1 q))⟩
        refine Ev.iload_n dX8_laysHung_2 (Eq.refl 3) rfl ?_
        refine Ev.aload_n dX8_laysHung_3 (Eq.refl 4) rfl ?_
        refine Ev.getR dX8_laysHung_4 (Eq.refl 7) fg_X8_13 rfl rfl (rX8_3 hR) ?_
        refine Ev.iconst dX8_laysHung_7 (Eq.refl 8) ?_
        refine Ev.iaload dX8_laysHung_8 (Eq.refl 9) rfl rfl (by omega) (by decide) (show (0 : Int).toNat = 0 from rfl) ?_
        rw [g20]
        refine Ev.icmp_ge (tgt := 37) dX8_laysHung_9 (Eq.refl 12) (by decide) ⟨by omega, by omega⟩ ⟨by omega, by omega⟩ (fun c9 => ?_) (fun c9 => ?_)
        · refine Ev.iconst dX8_laysHung_37 (Eq.refl 38) ?_
          refine Ev.is2 dX8_laysHung_38 (Eq.refl 39) (by decide) rfl ?_
          exact LP _ g 1 _ _ rfl hF hM (Or.inl rfl)
        · omega
  refine Ev.iconst dX8_laysHung_0 (Eq.refl 1) ?_
  refine Ev.is2 dX8_laysHung_1 (Eq.refl 2) (by decide) rfl ?_
  exact L0 _ 0 _ rfl (by omega) Fr.rf (fun j hj => by omega)
