/-! The model: lays -/
def LY (h : Hp) (v : Nv) : Prop := h.2.1 0 15 = dB v (vN v) ∧ ∀ j a, j < vJ v → a < 3 → h.2.1 10 (3 * j + a) = zA v j a ∧ h.1 11 (3 * j + a) = hU v j a
def FX (h g : Hp) : Prop := g.2.2 = h.2.2 ∧ (∀ i, i ≠ 11 → ∀ j, g.1 i j = h.1 i j) ∧ ∀ i, i ≠ 10 → ∀ j, g.2.1 i j = h.2.1 i j
theorem FX.rf {h : Hp} : FX h h := ⟨rfl, fun _ _ _ => rfl, fun _ _ _ => rfl⟩
theorem FX.w {h g : Hp} {k : Nat} {x : Int} (a : FX h g) : FX h (hI g 11 k x) := ⟨a.1, fun i q j => by rw [hI_ni q]; exact a.2.1 i q j, a.2.2⟩
theorem FX.wL {h g : Hp} {k : Nat} {x : Int} (a : FX h g) : FX h (hL g 10 k x) := ⟨a.1, a.2.1, fun i q j => by rw [hL_ni q]; exact a.2.2 i q j⟩
theorem GW4 {v : Nv} : GW v (-4) = hgV v := funext fun k => propext ⟨fun z => z.1, fun z => ⟨z, by omega⟩⟩
abbrev LyP (h : Hp) (v : Nv) : Int → Hp → Prop := fun x h' => Lk h h' ∧ x = bi (aH v (hgV v)) ∧ (∀ j, j < vJ v → h'.1 7 j = bi (hg v (hgV v) j)) ∧ (aH v (hgV v) → LY h' v)
theorem m_lays {h : Hp} (hR : MOk h.2.2) (ok : GOk (h.1 2)) : Ev mX8_lays 4 0 (entL [.ref 0] 10) [] h (PI (LyP h (gV (h.1 2)))) := by
  show Ev mX8_lays 4 0 [some (.ref 0), none, none, none, none, none, none, none, none, none] [] h _
  have hR0 := hR
  have hv := ok.2.2.2.2
  have hJ := hv.1
  have h5 := vN5 hv
  have eJ := gJ ok
  have eP := fun (j a : Nat) (hj : j < vJ (gV (h.1 2))) (hf : ¬ vF (gV (h.1 2)) j = true) (ha : a < 3) => gP (f := h.1 2) (j := j) (a := a) (by omega) (fun z => hf ((gF (by omega)).mp z)) ha
  have cH := m_laysHung (h := h) (w := -4) hR ok (by omega)
  rw [GW4] at cH
  generalize hve : gV (h.1 2) = v at *
  have cF : ∀ (g : Hp) (i : Nat), Lk h g → i < vJ v → Ev mX8_isFree 0 0 (entL [.ref 0, iv (i : Int)] 2) [] g (PE (bi (vF v i = true)) g) := fun g i z hi => by
    have := m_isFree (h := g) (j := i) (by rw [z.1]; exact hR) (by rw [z.s]; exact ok) (by rw [z.s, hve]; exact hi)
    rw [z.s, hve] at this; exact this
  by_cases ha : aH v (hgV v)
  · have hdN := dB_64 hv ha (Nat.le_refl (vN v))
    have hdb := dB_b hv ha
    have L2 : ∀ (g1 : Hp), Lk h g1 → (∀ j, j < vJ v → g1.1 7 j = bi (hg v (hgV v) j)) → NFm g1 v → TW g1 (vN v) (tB v (vN v)) → g1.2.1 0 15 = dB v (vN v) → ∀ (m j : Nat) (g : Hp) (l1 l4 l6 l7 l9 : Option Value), vJ v - j = m → j ≤ vJ v → FX g1 g → (∀ i a, i < j → a < 3 → g.2.1 10 (3 * i + a) = zA v i a ∧ g.1 11 (3 * i + a) = hU v i a) → Ev mX8_lays 4 157 [some (.ref 0), l1, none, some (iv (j : Int)), l4, none, l6, l7, none, l9] [] g (PI (LyP h v)) := by
      intro g1 hK1 h7 nf hW e5 m
      induction m using Nat.strongRecOn with
      | ind m ih =>
        intro j g l1 l4 l6 l7 l9 hm hj hX hx
        have hKg : ∀ f, FX g1 f → Lk h f := fun f z => hK1.tr ⟨z.1, fun i _ _ _ q j => z.2.1 i q j, fun k _ => z.2.1 0 (by omega) k⟩
        have IN : ∀ (m2 a : Nat) (g : Hp), 3 - a = m2 → a ≤ 3 → j < vJ v → FX g1 g → (∀ i b, i < j → b < 3 → g.2.1 10 (3 * i + b) = zA v i b ∧ g.1 11 (3 * i + b) = hU v i b) → (∀ b, b < a → g.2.1 10 (3 * j + b) = zA v j b ∧ g.1 11 (3 * j + b) = hU v j b) → Ev mX8_lays 4 170 [some (.ref 0), l1, none, some (iv (j : Int)), some (iv (a : Int)), none, l6, l7, none, l9] [] g (PI (LyP h v)) := by
          intro m2
          induction m2 using Nat.strongRecOn with
          | ind m2 ih2 =>
            intro a g hm2 ha3 hj2 hX hx hy
            have hK := hKg g hX
            have hR : MOk g.2.2 := by rw [hK.1]; exact hR0
            have el : g.2.1 0 15 = dB v (vN v) := by rw [hX.2.2 0 (by omega)]; exact e5
            by_cases a3 : a < 3
            · have zb := zA_b hv ha hj2 a3
              have q3 : ((3 : Int) * (j : Int) + (a : Int)).toNat = 3 * j + a := by omega
              have NX : ∀ f, f = hI (hL g 10 (3 * j + a) (zA v j a)) 11 (3 * j + a) (100 * zA v j a / dB v (vN v)) → Ev mX8_lays 4 170 [some (.ref 0), l1, none, some (iv (j : Int)), some (iv ((a : Int) + 1)), none, l6, l7, none, l9] [] f (PI (LyP h v)) := fun f ef => by
                subst ef
                refine ih2 _ (by omega) (a + 1) _ rfl (by omega) hj2 hX.wL.w (fun i b hi hb => ?_) (fun b hb => ?_)
                · refine ⟨?_, ?_⟩
                  · show (hL g 10 (3 * j + a) (zA v j a)).2.1 10 (3 * i + b) = _
                    rw [hL_nk (by omega)]; exact (hx i b hi hb).1
                  · rw [hI_nk (by omega)]; exact (hx i b hi hb).2
                · by_cases e : b = a
                  · subst e; exact ⟨hL_eq, hI_eq⟩
                  · refine ⟨?_, ?_⟩
                    · show (hL g 10 (3 * j + a) (zA v j a)).2.1 10 (3 * j + b) = _
                      rw [hL_nk (by omega)]; exact (hy b (by omega)).1
                    · rw [hI_nk (by omega)]; exact (hy b (by omega)).2
              by_cases hf : vF v j = true
              · have rk := rwo_lt hj2 hf
                have er : g.1 9 j = (rwo v j : Int) := by rw [hX.2.1 9 (by omega)]; exact nf.2 j hj2 hf
                have q1 : ((8 : Int) * (rwo v j : Int) + 5 + (a : Int)).toNat = 8 * rwo v j + (5 + a) := by omega
                have et : g.2.1 8 (8 * rwo v j + (5 + a)) = zA v j a := by
                  rw [hX.2.2 8 (by omega), hW (rwo v j) (5 + a) rk (by omega)]
                  exact (if_pos hf).symm
                refine Ev.iload dX8_lays_170 (Eq.refl 172) rfl ?_
                refine Ev.iconst dX8_lays_172 (Eq.refl 173) ?_
                refine Ev.icmp_ge (tgt := 277) dX8_lays_173 (Eq.refl 176) (by decide) ⟨by omega, by omega⟩ ⟨by omega, by omega⟩ (fun c173 => ?_) (fun c173 => ?_)
                · omega
                · refine Ev.aload_n dX8_lays_176 (Eq.refl 177) rfl ?_
                  refine Ev.getR dX8_lays_177 (Eq.refl 180) fg_X8_40 rfl rfl (rX8_16 hR) ?_
                  refine Ev.iconst dX8_lays_180 (Eq.refl 181) ?_
                  refine Ev.iload_n dX8_lays_181 (Eq.refl 182) rfl ?_
                  refine Ev.imul dX8_lays_182 (Eq.refl 183) ?_
                  refine Ev.iload dX8_lays_183 (Eq.refl 185) rfl ?_
                  refine Ev.iadd dX8_lays_185 (Eq.refl 186) ?_
                  refine Ev.aload_n dX8_lays_186 (Eq.refl 187) rfl ?_
                  refine Ev.iload_n dX8_lays_187 (Eq.refl 188) rfl ?_
                  refine Ev.cv1E dX8_lays_188 (Eq.refl 191) cw_X8_134 (Nat.le_of_ble_eq_true rfl) (by decide) rfl rfl rfl (Nat.le_of_ble_eq_true rfl) (cF g j hK hj2) ?_
                  refine Ev.if_eqB (tgt := 216) dX8_lays_191 (Eq.refl 194) (by decide) (fun c191 => ?_) (fun c191 => ?_)
                  · exact absurd hf c191
                  · refine Ev.aload_n dX8_lays_194 (Eq.refl 195) rfl ?_
                    refine Ev.getR dX8_lays_195 (Eq.refl 198) fg_X8_33 rfl rfl (rX8_12 hR) ?_
                    refine Ev.bipush dX8_lays_198 (Eq.refl 200) (by decide) ?_
                    refine Ev.aload_n dX8_lays_200 (Eq.refl 201) rfl ?_
                    refine Ev.getR dX8_lays_201 (Eq.refl 204) fg_X8_37 rfl rfl (rX8_13 hR) ?_
                    refine Ev.iload_n dX8_lays_204 (Eq.refl 205) rfl ?_
                    refine Ev.iaload dX8_lays_205 (Eq.refl 206) rfl rfl (by omega) (by decide) (by first | with_reducible exact Int.toNat_natCast _ | exact Eq.refl _) ?_
                    rw [er]
                    refine Ev.imul dX8_lays_206 (Eq.refl 207) ?_
                    refine Ev.iconst dX8_lays_207 (Eq.refl 208) ?_
                    refine Ev.iadd dX8_lays_208 (Eq.refl 209) ?_
                    refine Ev.iload dX8_lays_209 (Eq.refl 211) rfl ?_
                    refine Ev.iadd dX8_lays_211 (Eq.refl 212) ?_
                    refine Ev.laload dX8_lays_212 (Eq.refl 213) rfl rfl (by omega) (by decide) q1 ?_
                    rw [et]
                    refine Ev.goto' (pc' := 236) dX8_lays_213 (by decide) ?_
                    refine Ev.lastore dX8_lays_236 (Eq.refl 237) rfl rfl (by omega) (by decide) q3 ?_
                    refine Ev.aload_n dX8_lays_237 (Eq.refl 238) rfl ?_
                    refine Ev.getR dX8_lays_238 (Eq.refl 241) fg_X8_43 rfl rfl (rX8_17 hR) ?_
                    refine Ev.iconst dX8_lays_241 (Eq.refl 242) ?_
                    refine Ev.iload_n dX8_lays_242 (Eq.refl 243) rfl ?_
                    refine Ev.imul dX8_lays_243 (Eq.refl 244) ?_
                    refine Ev.iload dX8_lays_244 (Eq.refl 246) rfl ?_
                    refine Ev.iadd dX8_lays_246 (Eq.refl 247) ?_
                    refine Ev.ldc2 dX8_lays_247 (Eq.refl 250) kc_X8_160 ?_
                    refine Ev.aload_n dX8_lays_250 (Eq.refl 251) rfl ?_
                    refine Ev.getR dX8_lays_251 (Eq.refl 254) fg_X8_40 rfl rfl (rX8_16 hR) ?_
                    refine Ev.iconst dX8_lays_254 (Eq.refl 255) ?_
                    refine Ev.iload_n dX8_lays_255 (Eq.refl 256) rfl ?_
                    refine Ev.imul dX8_lays_256 (Eq.refl 257) ?_
                    refine Ev.iload dX8_lays_257 (Eq.refl 259) rfl ?_
                    refine Ev.iadd dX8_lays_259 (Eq.refl 260) ?_
                    refine Ev.laload dX8_lays_260 (Eq.refl 261) rfl rfl (by omega) (by decide) q3 ?_
                    rw [hL_eq]
                    refine Ev.lmul dX8_lays_261 (Eq.refl 262) ?_
                    refine Ev.aload_n dX8_lays_262 (Eq.refl 263) rfl ?_
                    refine Ev.getL dX8_lays_263 (Eq.refl 266) fg_X8_156 rfl rfl ?_
                    rw [hL_ni (by omega), el]
                    refine Ev.cs2F dX8_lays_266 (Eq.refl 269) cw_X8_162 (Nat.le_of_ble_eq_true rfl) (by decide) rfl (Nat.le_of_ble_eq_true rfl) (m_downL (by omega) (by omega)) ?_
                    refine Ev.l2i dX8_lays_269 (Eq.refl 270) ?_
                    refine Ev.iastore dX8_lays_270 (Eq.refl 271) rfl rfl (by omega) (by decide) q3 ?_
                    refine Ev.ii4 dX8_lays_271 (Eq.refl 274) (by decide) rfl ?_
                    refine Ev.goto' (pc' := 170) dX8_lays_274 (by decide) ?_
                    exact NX _ rfl
              · have q2 : ((14 : Int) + 3 * (j : Int) + (a : Int)).toNat = 14 + 3 * j + a := by omega
                have ep : g.1 2 (14 + 3 * j + a) = vP v j a := by rw [hK.s]; exact eP j a hj2 hf a3
                have pb := hv.2.2.2.2.2.1 j a
                have ez : dB v (vN v) * vP v j a = zA v j a := by rw [Int.mul_comm]; exact (if_neg hf).symm
                refine Ev.iload dX8_lays_170 (Eq.refl 172) rfl ?_
                refine Ev.iconst dX8_lays_172 (Eq.refl 173) ?_
                refine Ev.icmp_ge (tgt := 277) dX8_lays_173 (Eq.refl 176) (by decide) ⟨by omega, by omega⟩ ⟨by omega, by omega⟩ (fun c173 => ?_) (fun c173 => ?_)
                · omega
                · refine Ev.aload_n dX8_lays_176 (Eq.refl 177) rfl ?_
                  refine Ev.getR dX8_lays_177 (Eq.refl 180) fg_X8_40 rfl rfl (rX8_16 hR) ?_
                  refine Ev.iconst dX8_lays_180 (Eq.refl 181) ?_
                  refine Ev.iload_n dX8_lays_181 (Eq.refl 182) rfl ?_
                  refine Ev.imul dX8_lays_182 (Eq.refl 183) ?_
                  refine Ev.iload dX8_lays_183 (Eq.refl 185) rfl ?_
                  refine Ev.iadd dX8_lays_185 (Eq.refl 186) ?_
                  refine Ev.aload_n dX8_lays_186 (Eq.refl 187) rfl ?_
                  refine Ev.iload_n dX8_lays_187 (Eq.refl 188) rfl ?_
                  refine Ev.cv1E dX8_lays_188 (Eq.refl 191) cw_X8_134 (Nat.le_of_ble_eq_true rfl) (by decide) rfl rfl rfl (Nat.le_of_ble_eq_true rfl) (cF g j hK hj2) ?_
                  refine Ev.if_eqB (tgt := 216) dX8_lays_191 (Eq.refl 194) (by decide) (fun c191 => ?_) (fun c191 => ?_)
                  · refine Ev.aload_n dX8_lays_216 (Eq.refl 217) rfl ?_
                    refine Ev.getL dX8_lays_217 (Eq.refl 220) fg_X8_156 rfl rfl ?_
                    rw [el]
                    refine Ev.aload_n dX8_lays_220 (Eq.refl 221) rfl ?_
                    refine Ev.getR dX8_lays_221 (Eq.refl 224) fg_X8_13 rfl rfl (rX8_3 hR) ?_
                    refine Ev.bipush dX8_lays_224 (Eq.refl 226) (by decide) ?_
                    refine Ev.iconst dX8_lays_226 (Eq.refl 227) ?_
                    refine Ev.iload_n dX8_lays_227 (Eq.refl 228) rfl ?_
                    refine Ev.imul dX8_lays_228 (Eq.refl 229) ?_
                    refine Ev.iadd dX8_lays_229 (Eq.refl 230) ?_
                    refine Ev.iload dX8_lays_230 (Eq.refl 232) rfl ?_
                    refine Ev.iadd dX8_lays_232 (Eq.refl 233) ?_
                    refine Ev.iaload dX8_lays_233 (Eq.refl 234) rfl rfl (by omega) (by decide) q2 ?_
                    rw [ep]
                    refine Ev.i2l dX8_lays_234 (Eq.refl 235) ⟨by omega, by omega⟩ ?_
                    refine Ev.lmul dX8_lays_235 (Eq.refl 236) ?_
                    rw [ez]
                    refine Ev.lastore dX8_lays_236 (Eq.refl 237) rfl rfl (by omega) (by decide) q3 ?_
                    refine Ev.aload_n dX8_lays_237 (Eq.refl 238) rfl ?_
                    refine Ev.getR dX8_lays_238 (Eq.refl 241) fg_X8_43 rfl rfl (rX8_17 hR) ?_
                    refine Ev.iconst dX8_lays_241 (Eq.refl 242) ?_
                    refine Ev.iload_n dX8_lays_242 (Eq.refl 243) rfl ?_
                    refine Ev.imul dX8_lays_243 (Eq.refl 244) ?_
                    refine Ev.iload dX8_lays_244 (Eq.refl 246) rfl ?_
                    refine Ev.iadd dX8_lays_246 (Eq.refl 247) ?_
                    refine Ev.ldc2 dX8_lays_247 (Eq.refl 250) kc_X8_160 ?_
                    refine Ev.aload_n dX8_lays_250 (Eq.refl 251) rfl ?_
                    refine Ev.getR dX8_lays_251 (Eq.refl 254) fg_X8_40 rfl rfl (rX8_16 hR) ?_
                    refine Ev.iconst dX8_lays_254 (Eq.refl 255) ?_
                    refine Ev.iload_n dX8_lays_255 (Eq.refl 256) rfl ?_
                    refine Ev.imul dX8_lays_256 (Eq.refl 257) ?_
                    refine Ev.iload dX8_lays_257 (Eq.refl 259) rfl ?_
                    refine Ev.iadd dX8_lays_259 (Eq.refl 260) ?_
                    refine Ev.laload dX8_lays_260 (Eq.refl 261) rfl rfl (by omega) (by decide) q3 ?_
                    rw [hL_eq]
                    refine Ev.lmul dX8_lays_261 (Eq.refl 262) ?_
                    refine Ev.aload_n dX8_lays_262 (Eq.refl 263) rfl ?_
                    refine Ev.getL dX8_lays_263 (Eq.refl 266) fg_X8_156 rfl rfl ?_
                    rw [hL_ni (by omega), el]
                    refine Ev.cs2F dX8_lays_266 (Eq.refl 269) cw_X8_162 (Nat.le_of_ble_eq_true rfl) (by decide) rfl (Nat.le_of_ble_eq_true rfl) (m_downL (by omega) (by omega)) ?_
                    refine Ev.l2i dX8_lays_269 (Eq.refl 270) ?_
                    refine Ev.iastore dX8_lays_270 (Eq.refl 271) rfl rfl (by omega) (by decide) q3 ?_
                    refine Ev.ii4 dX8_lays_271 (Eq.refl 274) (by decide) rfl ?_
                    refine Ev.goto' (pc' := 170) dX8_lays_274 (by decide) ?_
                    exact NX _ rfl
                  · exact absurd c191 hf
            · have e : a = 3 := by omega
              subst e
              refine Ev.iload dX8_lays_170 (Eq.refl 172) rfl ?_
              refine Ev.iconst dX8_lays_172 (Eq.refl 173) ?_
              refine Ev.icmp_ge (tgt := 277) dX8_lays_173 (Eq.refl 176) (by decide) ⟨by omega, by omega⟩ ⟨by omega, by omega⟩ (fun c173 => ?_) (fun c173 => ?_)
              · refine Ev.ii3 dX8_lays_277 (Eq.refl 280) (by decide) rfl ?_
                refine Ev.goto' (pc' := 157) dX8_lays_280 (by decide) ?_
                exact ih _ (by omega) (j + 1) _ _ _ _ _ _ rfl (by omega) hX (fun i b hi hb => if e : i = j then by rw [e]; exact hy b hb else hx i b (by omega) hb)
              · omega
        have hK := hKg g hX
        have hR : MOk g.2.2 := by rw [hK.1]; exact hR0
        have g20 : g.1 2 0 = (vJ v : Int) := by rw [hK.s]; exact eJ
        by_cases hj2 : j < vJ v
        · refine Ev.iload_n dX8_lays_157 (Eq.refl 158) rfl ?_
          refine Ev.aload_n dX8_lays_158 (Eq.refl 159) rfl ?_
          refine Ev.getR dX8_lays_159 (Eq.refl 162) fg_X8_13 rfl rfl (rX8_3 hR) ?_
          refine Ev.iconst dX8_lays_162 (Eq.refl 163) ?_
          refine Ev.iaload dX8_lays_163 (Eq.refl 164) rfl rfl (by omega) (by decide) (show (0 : Int).toNat = 0 from rfl) ?_
          rw [g20]
          refine Ev.icmp_ge (tgt := 283) dX8_lays_164 (Eq.refl 167) (by decide) ⟨by omega, by omega⟩ ⟨by omega, by omega⟩ (fun c164 => ?_) (fun c164 => ?_)
          · omega
          · refine Ev.iconst dX8_lays_167 (Eq.refl 168) ?_
            refine Ev.is4 dX8_lays_168 (Eq.refl 170) (by decide) rfl ?_
            exact IN _ 0 _ rfl (by omega) hj2 hX hx (fun b hb => by omega)
        · have e : j = vJ v := by omega
          subst e
          refine Ev.iload_n dX8_lays_157 (Eq.refl 158) rfl ?_
          refine Ev.aload_n dX8_lays_158 (Eq.refl 159) rfl ?_
          refine Ev.getR dX8_lays_159 (Eq.refl 162) fg_X8_13 rfl rfl (rX8_3 hR) ?_
          refine Ev.iconst dX8_lays_162 (Eq.refl 163) ?_
          refine Ev.iaload dX8_lays_163 (Eq.refl 164) rfl rfl (by omega) (by decide) (show (0 : Int).toNat = 0 from rfl) ?_
          rw [g20]
          refine Ev.icmp_ge (tgt := 283) dX8_lays_164 (Eq.refl 167) (by decide) ⟨by omega, by omega⟩ ⟨by omega, by omega⟩ (fun c164 => ?_) (fun c164 => ?_)
          · refine Ev.iconst dX8_lays_283 (Eq.refl 284) ?_
            exact Ev.zret dX8_lays_284 rfl (by first | exact bi01 _ | exact Or.inl rfl | exact Or.inr rfl | omega) (⟨_, rfl, hK, (bi_t ha).symm, fun j hj => by rw [hX.2.1 7 (by omega)]; exact h7 j hj, fun _ => ⟨by rw [hX.2.2 0 (by omega)]; exact e5, hx⟩⟩)
          · omega
    have L1 : ∀ (g0 : Hp), Lk h g0 → (∀ j, j < vJ v → g0.1 7 j = bi (hg v (hgV v) j)) → NFm g0 v → ∀ (m p : Nat) (g : Hp) (l4 l6 l7 l9 : Option Value), vN v - p = m → p ≤ vN v → F8 g0 g → TW g (vN v) (tB v p) → Ev mX8_lays 4 19 [some (.ref 0), some (jv (dB v p)), none, some (iv (p : Int)), l4, none, l6, l7, none, l9] [] g (PI (LyP h v)) := by
      intro g0 hK0 h7 nf m
      induction m using Nat.strongRecOn with
      | ind m ih =>
        intro p g l4 l6 l7 l9 hm hp hF hW
        have hK := hK0.f8 hF
        have hR1 : MOk g.2.2 := by rw [hK.1]; exact hR0
        have e14 : g.1 0 14 = (vN v : Int) := by rw [hF.1]; exact nf.1
        by_cases hp2 : p < vN v
        · have hd := dB_64 hv ha (i := p) (by omega)
          have MID : ∀ (m2 r : Nat) (g : Hp) (l7 l9 : Option Value), vN v - r = m2 → r ≤ vN v → F8 g0 g → TW g (vN v) (fun i c => if i < r then tB v (p + 1) i c else tB v p i c) → Ev mX8_lays 4 43 [some (.ref 0), some (jv (dB v p)), none, some (iv (p : Int)), some (jv (tB v p p p)), none, some (iv (r : Int)), l7, none, l9] [] g (PI (LyP h v)) := by
            intro m2
            induction m2 using Nat.strongRecOn with
            | ind m2 ih2 =>
              intro r g l7 l9 hm2 hr hF hW
              have hK := hK0.f8 hF
              have hR : MOk g.2.2 := by rw [hK.1]; exact hR0
              have e14 : g.1 0 14 = (vN v : Int) := by rw [hF.1]; exact nf.1
              by_cases hr2 : r < vN v
              · have rp : r ≠ p → ∀ c, c < 8 → I64 (tB v p p p * tB v p r c - tB v p r p * tB v p p c) := fun hn c hc => by
                  have := tB_pr hv ha hp2 hr2 hn hc
                  unfold Ab at this
                  exact ⟨by omega, by omega⟩
                have erp : g.2.1 8 (8 * r + p) = tB v p r p := (hW r p hr2 (by omega)).trans (if_neg (by omega))
                have q0 : ((8 : Int) * (r : Int) + (p : Int)).toNat = 8 * r + p := by omega
                have IN : r ≠ p → ∀ (m3 c : Nat) (g : Hp), 8 - c = m3 → c ≤ 8 → F8 g0 g → (∀ i x, i < vN v → x < 8 → g.2.1 8 (8 * i + x) = if i < r ∨ (i = r ∧ x < c) then tB v (p + 1) i x else tB v p i x) → Ev mX8_lays 4 69 [some (.ref 0), some (jv (dB v p)), none, some (iv (p : Int)), some (jv (tB v p p p)), none, some (iv (r : Int)), some (jv (tB v p r p)), none, some (iv (c : Int))] [] g (PI (LyP h v)) := by
                  intro hn m3
                  induction m3 using Nat.strongRecOn with
                  | ind m3 ih3 =>
                    intro c g hm3 hc hF hW
                    have hK := hK0.f8 hF
                    have hR : MOk g.2.2 := by rw [hK.1]; exact hR0
                    by_cases c8 : c < 8
                    · have q1 : ((8 : Int) * (r : Int) + (c : Int)).toNat = 8 * r + c := by omega
                      have q2 : ((8 : Int) * (p : Int) + (c : Int)).toNat = 8 * p + c := by omega
                      have e1 : g.2.1 8 (8 * r + c) = tB v p r c := (hW r c hr2 c8).trans (if_neg (by omega))
                      have ebk : tB v (p + 1) p c = tB v p p c := bs_k
                      have e2 : g.2.1 8 (8 * p + c) = tB v p p c := (hW p c hp2 c8).trans (by split; exact ebk; rfl)
                      have en : tB v (p + 1) r c = (tB v p p p * tB v p r c - tB v p r p * tB v p p c).tdiv (dB v p) := if_neg hn
                      refine Ev.iload dX8_lays_69 (Eq.refl 71) rfl ?_
                      refine Ev.bipush dX8_lays_71 (Eq.refl 73) (by decide) ?_
                      refine Ev.icmp_ge (tgt := 135) dX8_lays_73 (Eq.refl 76) (by decide) ⟨by omega, by omega⟩ ⟨by omega, by omega⟩ (fun c73 => ?_) (fun c73 => ?_)
                      · omega
                      · refine Ev.iload dX8_lays_76 (Eq.refl 78) rfl ?_
                        refine Ev.iload_n dX8_lays_78 (Eq.refl 79) rfl ?_
                        refine Ev.icmp_eq (tgt := 135) dX8_lays_79 (Eq.refl 82) (by decide) ⟨by omega, by omega⟩ ⟨by omega, by omega⟩ (fun c79 => ?_) (fun c79 => ?_)
                        · omega
                        · refine Ev.aload_n dX8_lays_82 (Eq.refl 83) rfl ?_
                          refine Ev.getR dX8_lays_83 (Eq.refl 86) fg_X8_33 rfl rfl (rX8_12 hR) ?_
                          refine Ev.bipush dX8_lays_86 (Eq.refl 88) (by decide) ?_
                          refine Ev.iload dX8_lays_88 (Eq.refl 90) rfl ?_
                          refine Ev.imul dX8_lays_90 (Eq.refl 91) ?_
                          refine Ev.iload dX8_lays_91 (Eq.refl 93) rfl ?_
                          refine Ev.iadd dX8_lays_93 (Eq.refl 94) ?_
                          refine Ev.lload dX8_lays_94 (Eq.refl 96) rfl ?_
                          refine Ev.aload_n dX8_lays_96 (Eq.refl 97) rfl ?_
                          refine Ev.getR dX8_lays_97 (Eq.refl 100) fg_X8_33 rfl rfl (rX8_12 hR) ?_
                          refine Ev.bipush dX8_lays_100 (Eq.refl 102) (by decide) ?_
                          refine Ev.iload dX8_lays_102 (Eq.refl 104) rfl ?_
                          refine Ev.imul dX8_lays_104 (Eq.refl 105) ?_
                          refine Ev.iload dX8_lays_105 (Eq.refl 107) rfl ?_
                          refine Ev.iadd dX8_lays_107 (Eq.refl 108) ?_
                          refine Ev.laload dX8_lays_108 (Eq.refl 109) rfl rfl (by omega) (by decide) q1 ?_
                          rw [e1]
                          refine Ev.lmul dX8_lays_109 (Eq.refl 110) ?_
                          refine Ev.lload dX8_lays_110 (Eq.refl 112) rfl ?_
                          refine Ev.aload_n dX8_lays_112 (Eq.refl 113) rfl ?_
                          refine Ev.getR dX8_lays_113 (Eq.refl 116) fg_X8_33 rfl rfl (rX8_12 hR) ?_
                          refine Ev.bipush dX8_lays_116 (Eq.refl 118) (by decide) ?_
                          refine Ev.iload_n dX8_lays_118 (Eq.refl 119) rfl ?_
                          refine Ev.imul dX8_lays_119 (Eq.refl 120) ?_
                          refine Ev.iload dX8_lays_120 (Eq.refl 122) rfl ?_
                          refine Ev.iadd dX8_lays_122 (Eq.refl 123) ?_
                          refine Ev.laload dX8_lays_123 (Eq.refl 124) rfl rfl (by omega) (by decide) q2 ?_
                          rw [e2]
                          refine Ev.lmul dX8_lays_124 (Eq.refl 125) ?_
                          refine Ev.lsub dX8_lays_125 (Eq.refl 126) ?_
                          refine Ev.lload_n dX8_lays_126 (Eq.refl 127) rfl ?_
                          refine Ev.ldiv dX8_lays_127 (Eq.refl 128) (rp hn c c8) ⟨by omega, by omega⟩ (by omega) ?_
                          rw [← en]
                          refine Ev.lastore dX8_lays_128 (Eq.refl 129) rfl rfl (by omega) (by decide) q1 ?_
                          refine Ev.ii9 dX8_lays_129 (Eq.refl 132) (by decide) rfl ?_
                          refine Ev.goto' (pc' := 69) dX8_lays_132 (by decide) ?_
                          exact ih3 _ (by omega) (c + 1) _ rfl (by omega) hF.w (fun i x hi hx => by have z1 := hW i x hi hx; rw [hL_rd]; have z4 : 8 * i + x = 8 * r + c ↔ i = r ∧ x = c := (by omega); grind)
                    · have e : c = 8 := by omega
                      subst e
                      refine Ev.iload dX8_lays_69 (Eq.refl 71) rfl ?_
                      refine Ev.bipush dX8_lays_71 (Eq.refl 73) (by decide) ?_
                      refine Ev.icmp_ge (tgt := 135) dX8_lays_73 (Eq.refl 76) (by decide) ⟨by omega, by omega⟩ ⟨by omega, by omega⟩ (fun c73 => ?_) (fun c73 => ?_)
                      · refine Ev.ii6 dX8_lays_135 (Eq.refl 138) (by decide) rfl ?_
                        refine Ev.goto' (pc' := 43) dX8_lays_138 (by decide) ?_
                        exact ih2 _ (by omega) (r + 1) _ _ _ rfl (by omega) hF (fun i x hi hx => by have z1 := hW i x hi hx; rw [z1]; grind)
                      · omega
                by_cases hn : r = p
                · subst hn
                  refine Ev.iload dX8_lays_43 (Eq.refl 45) rfl ?_
                  refine Ev.aload_n dX8_lays_45 (Eq.refl 46) rfl ?_
                  refine Ev.getI dX8_lays_46 (Eq.refl 49) fg_X8_140 rfl rfl ?_
                  rw [e14]
                  refine Ev.icmp_ge (tgt := 141) dX8_lays_49 (Eq.refl 52) (by decide) ⟨by omega, by omega⟩ ⟨by omega, by omega⟩ (fun c49 => ?_) (fun c49 => ?_)
                  · omega
                  · refine Ev.aload_n dX8_lays_52 (Eq.refl 53) rfl ?_
                    refine Ev.getR dX8_lays_53 (Eq.refl 56) fg_X8_33 rfl rfl (rX8_12 hR) ?_
                    refine Ev.bipush dX8_lays_56 (Eq.refl 58) (by decide) ?_
                    refine Ev.iload dX8_lays_58 (Eq.refl 60) rfl ?_
                    refine Ev.imul dX8_lays_60 (Eq.refl 61) ?_
                    refine Ev.iload_n dX8_lays_61 (Eq.refl 62) rfl ?_
                    refine Ev.iadd dX8_lays_62 (Eq.refl 63) ?_
                    refine Ev.laload dX8_lays_63 (Eq.refl 64) rfl rfl (by omega) (by decide) q0 ?_
                    rw [erp]
                    refine Ev.ls7 dX8_lays_64 (Eq.refl 66) (by decide) rfl ?_
                    refine Ev.iconst dX8_lays_66 (Eq.refl 67) ?_
                    refine Ev.is9 dX8_lays_67 (Eq.refl 69) (by decide) rfl ?_
                    refine Ev.iload dX8_lays_69 (Eq.refl 71) rfl ?_
                    refine Ev.bipush dX8_lays_71 (Eq.refl 73) (by decide) ?_
                    refine Ev.icmp_ge (tgt := 135) dX8_lays_73 (Eq.refl 76) (by decide) ⟨by omega, by omega⟩ ⟨by omega, by omega⟩ (fun c73 => ?_) (fun c73 => ?_)
                    · omega
                    · refine Ev.iload dX8_lays_76 (Eq.refl 78) rfl ?_
                      refine Ev.iload_n dX8_lays_78 (Eq.refl 79) rfl ?_
                      refine Ev.icmp_eq (tgt := 135) dX8_lays_79 (Eq.refl 82) (by decide) ⟨by omega, by omega⟩ ⟨by omega, by omega⟩ (fun c79 => ?_) (fun c79 => ?_)
                      · refine Ev.ii6 dX8_lays_135 (Eq.refl 138) (by decide) rfl ?_
                        refine Ev.goto' (pc' := 43) dX8_lays_138 (by decide) ?_
                        exact ih2 _ (by omega) (r + 1) _ _ _ rfl (by omega) hF (fun i x hi hx => by have z1 := hW i x hi hx; have z2 : tB v (r + 1) r x = tB v r r x := bs_k; rw [z1]; grind)
                      · omega
                · refine Ev.iload dX8_lays_43 (Eq.refl 45) rfl ?_
                  refine Ev.aload_n dX8_lays_45 (Eq.refl 46) rfl ?_
                  refine Ev.getI dX8_lays_46 (Eq.refl 49) fg_X8_140 rfl rfl ?_
                  rw [e14]
                  refine Ev.icmp_ge (tgt := 141) dX8_lays_49 (Eq.refl 52) (by decide) ⟨by omega, by omega⟩ ⟨by omega, by omega⟩ (fun c49 => ?_) (fun c49 => ?_)
                  · omega
                  · refine Ev.aload_n dX8_lays_52 (Eq.refl 53) rfl ?_
                    refine Ev.getR dX8_lays_53 (Eq.refl 56) fg_X8_33 rfl rfl (rX8_12 hR) ?_
                    refine Ev.bipush dX8_lays_56 (Eq.refl 58) (by decide) ?_
                    refine Ev.iload dX8_lays_58 (Eq.refl 60) rfl ?_
                    refine Ev.imul dX8_lays_60 (Eq.refl 61) ?_
                    refine Ev.iload_n dX8_lays_61 (Eq.refl 62) rfl ?_
                    refine Ev.iadd dX8_lays_62 (Eq.refl 63) ?_
                    refine Ev.laload dX8_lays_63 (Eq.refl 64) rfl rfl (by omega) (by decide) q0 ?_
                    rw [erp]
                    refine Ev.ls7 dX8_lays_64 (Eq.refl 66) (by decide) rfl ?_
                    refine Ev.iconst dX8_lays_66 (Eq.refl 67) ?_
                    refine Ev.is9 dX8_lays_67 (Eq.refl 69) (by decide) rfl ?_
                    exact IN hn _ 0 _ rfl (by omega) hF (fun i x hi hx => by have z1 := hW i x hi hx; rw [z1]; grind)
              · have e : r = vN v := by omega
                subst e
                refine Ev.iload dX8_lays_43 (Eq.refl 45) rfl ?_
                refine Ev.aload_n dX8_lays_45 (Eq.refl 46) rfl ?_
                refine Ev.getI dX8_lays_46 (Eq.refl 49) fg_X8_140 rfl rfl ?_
                rw [e14]
                refine Ev.icmp_ge (tgt := 141) dX8_lays_49 (Eq.refl 52) (by decide) ⟨by omega, by omega⟩ ⟨by omega, by omega⟩ (fun c49 => ?_) (fun c49 => ?_)
                · refine Ev.lload dX8_lays_141 (Eq.refl 143) rfl ?_
                  refine Ev.ls1 dX8_lays_143 (Eq.refl 144) (by decide) rfl ?_
                  refine Ev.ii3 dX8_lays_144 (Eq.refl 147) (by decide) rfl ?_
                  refine Ev.goto' (pc' := 19) dX8_lays_147 (by decide) ?_
                  exact ih _ (by omega) (p + 1) _ _ _ _ _ rfl (by omega) hF (fun i x hi hx => (hW i x hi hx).trans (if_pos hi))
                · omega
          have q0 : ((8 : Int) * (p : Int) + (p : Int)).toNat = 8 * p + p := by omega
          have ep : g.2.1 8 (8 * p + p) = tB v p p p := hW p p hp2 (by omega)
          have hR := hR1
          refine Ev.iload_n dX8_lays_19 (Eq.refl 20) rfl ?_
          refine Ev.aload_n dX8_lays_20 (Eq.refl 21) rfl ?_
          refine Ev.getI dX8_lays_21 (Eq.refl 24) fg_X8_140 rfl rfl ?_
          rw [e14]
          refine Ev.icmp_ge (tgt := 150) dX8_lays_24 (Eq.refl 27) (by decide) ⟨by omega, by omega⟩ ⟨by omega, by omega⟩ (fun c24 => ?_) (fun c24 => ?_)
          · omega
          · refine Ev.aload_n dX8_lays_27 (Eq.refl 28) rfl ?_
            refine Ev.getR dX8_lays_28 (Eq.refl 31) fg_X8_33 rfl rfl (rX8_12 hR) ?_
            refine Ev.bipush dX8_lays_31 (Eq.refl 33) (by decide) ?_
            refine Ev.iload_n dX8_lays_33 (Eq.refl 34) rfl ?_
            refine Ev.imul dX8_lays_34 (Eq.refl 35) ?_
            refine Ev.iload_n dX8_lays_35 (Eq.refl 36) rfl ?_
            refine Ev.iadd dX8_lays_36 (Eq.refl 37) ?_
            refine Ev.laload dX8_lays_37 (Eq.refl 38) rfl rfl (by omega) (by decide) q0 ?_
            rw [ep]
            refine Ev.ls4 dX8_lays_38 (Eq.refl 40) (by decide) rfl ?_
            refine Ev.iconst dX8_lays_40 (Eq.refl 41) ?_
            refine Ev.is6 dX8_lays_41 (Eq.refl 43) (by decide) rfl ?_
            exact MID _ 0 _ _ _ rfl (by omega) hF (fun i x hi hx => (hW i x hi hx).trans (if_neg (by omega)).symm)
        · have e : p = vN v := by omega
          subst e
          have hR := hR1
          refine Ev.iload_n dX8_lays_19 (Eq.refl 20) rfl ?_
          refine Ev.aload_n dX8_lays_20 (Eq.refl 21) rfl ?_
          refine Ev.getI dX8_lays_21 (Eq.refl 24) fg_X8_140 rfl rfl ?_
          rw [e14]
          refine Ev.icmp_ge (tgt := 150) dX8_lays_24 (Eq.refl 27) (by decide) ⟨by omega, by omega⟩ ⟨by omega, by omega⟩ (fun c24 => ?_) (fun c24 => ?_)
          · refine Ev.aload_n dX8_lays_150 (Eq.refl 151) rfl ?_
            refine Ev.lload_n dX8_lays_151 (Eq.refl 152) rfl ?_
            refine Ev.putL dX8_lays_152 (Eq.refl 155) fp_X8_156 rfl rfl ?_
            refine Ev.iconst dX8_lays_155 (Eq.refl 156) ?_
            refine Ev.is3 dX8_lays_156 (Eq.refl 157) (by decide) rfl ?_
            exact L2 _ hK.wL (fun j hj => by show g.1 7 j = _; rw [hF.1]; exact h7 j hj) (by unfold NFm; show g.1 0 14 = _ ∧ ∀ j, j < vJ v → vF v j = true → g.1 9 j = _; rw [hF.1]; exact nf) (fun r c hr hc => by rw [hL_ni (by omega)]; exact hW r c hr hc) hL_eq _ 0 _ _ _ _ _ _ rfl (by omega) FX.rf (fun i a hi => by omega)
          · omega
    refine Ev.aload_n dX8_lays_0 (Eq.refl 1) rfl ?_
    refine Ev.bipush dX8_lays_1 (Eq.refl 3) (by decide) ?_
    refine Ev.cv1I dX8_lays_3 (Eq.refl 6) cw_X8_150 (Nat.le_of_ble_eq_true rfl) (by decide) rfl rfl rfl (Nat.le_of_ble_eq_true rfl) (cH) (fun x3 g3 hp3 => ?_)
    obtain ⟨hF3, rfl, h7⟩ := hp3
    have hK3 : Lk h g3 := Lk.rf.f7 hF3
    have hR : MOk g3.2.2 := by rw [hK3.1]; exact hR
    have cT := m_laysTable (h := g3) hR (by rw [hK3.s]; exact ok)
    rw [hK3.s, hve] at cT
    refine Ev.if_neB (tgt := 11) dX8_lays_6 (Eq.refl 9) (by decide) (fun c6 => ?_) (fun c6 => ?_)
    · refine Ev.aload_n dX8_lays_11 (Eq.refl 12) rfl ?_
      refine Ev.cv0V dX8_lays_12 (Eq.refl 15) cw_X8_153 (Nat.le_of_ble_eq_true rfl) (by decide) rfl rfl rfl (Nat.le_of_ble_eq_true rfl) (cT) (fun g12 hp12 => ?_)
      obtain ⟨hK12, h77, nf, hW⟩ := hp12
      refine Ev.lconst1 dX8_lays_15 (Eq.refl 16) ?_
      refine Ev.ls1 dX8_lays_16 (Eq.refl 17) (by decide) rfl ?_
      refine Ev.iconst dX8_lays_17 (Eq.refl 18) ?_
      refine Ev.is3 dX8_lays_18 (Eq.refl 19) (by decide) rfl ?_
      exact L1 _ (hK3.tr hK12) (fun j hj => by rw [h77]; exact h7 j hj) nf _ 0 _ _ _ _ _ rfl (by omega) F8.rf hW
    · exact absurd ha c6
  · refine Ev.aload_n dX8_lays_0 (Eq.refl 1) rfl ?_
    refine Ev.bipush dX8_lays_1 (Eq.refl 3) (by decide) ?_
    refine Ev.cv1I dX8_lays_3 (Eq.refl 6) cw_X8_150 (Nat.le_of_ble_eq_true rfl) (by decide) rfl rfl rfl (Nat.le_of_ble_eq_true rfl) (cH) (fun x3 g3 hp3 => ?_)
    obtain ⟨hF3, rfl, h7⟩ := hp3
    refine Ev.if_neB (tgt := 11) dX8_lays_6 (Eq.refl 9) (by decide) (fun c6 => ?_) (fun c6 => ?_)
    · exact absurd c6 ha
    · refine Ev.iconst dX8_lays_9 (Eq.refl 10) ?_
      exact Ev.zret dX8_lays_10 rfl (by first | exact bi01 _ | exact Or.inl rfl | exact Or.inr rfl | omega) (⟨_, rfl, Lk.rf.f7 hF3, (bi_f ha).symm, h7, fun z => absurd z ha⟩)
