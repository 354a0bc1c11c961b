/-! The constructor of the model: by program (wip/whole/mk_mcon.py). -/
def R0m (_ j : Nat) : Nat := ([0, 1, 0, 2, 3, 4, 0, 5, 0, 0, 6, 7, 8, 9, 0, 0, 10, 11, 12, 13, 14, 0, 15, 16] : List Nat).getD j 0
def upL : List (Nat × Int) → Nat → Int
  | [], _ => 0
  | q :: W, j => if j = q.1 then q.2 else upL W j
def hM (f : Nat → Int) : Hp := (fun i j => if i = 2 then f j else 0, fun _ _ => 0, R0m)
theorem hM_w {W : List (Nat × Int)} {k : Nat} {x : Int} : hI (hM (upL W)) 2 k x = hM (upL ((k, x) :: W)) := by
  unfold hI hM
  congr 1
  funext i j
  by_cases a : i = 2
  · subst a
    by_cases b : j = k
    · subst b; simp [upL]
    · simp [upL, b]
  · simp [a]
theorem R0m_ok : MOk R0m := ⟨rfl, rfl, rfl, rfl, rfl, rfl, rfl, rfl, rfl, rfl, rfl, rfl, rfl, rfl, rfl, rfl⟩
theorem m_fixes {h : Hp} {j : Nat} {x y z : Int} (hR : MOk h.2.2) (hj : j < 10) : Ev mX8_fixes 0 0 (entL [.ref 0, iv (j : Int), iv x, iv y, iv z] 5) [] h (PV (fun h' => h' = hI (hI (hI h 2 (14 + 3 * j) x) 2 (14 + 3 * j + 1) y) 2 (14 + 3 * j + 2) z)) := by
  show Ev mX8_fixes 0 0 [some (.ref 0), some (iv (j : Int)), some (iv x), some (iv y), some (iv z)] [] h _
  refine Ev.aload_n dX8_fixes_0 (Eq.refl 1) rfl ?_
  refine Ev.getR dX8_fixes_1 (Eq.refl 4) fg_X8_13 rfl rfl (rX8_3 hR) ?_
  refine Ev.bipush dX8_fixes_4 (Eq.refl 6) (by decide) ?_
  refine Ev.iconst dX8_fixes_6 (Eq.refl 7) ?_
  refine Ev.iload_n dX8_fixes_7 (Eq.refl 8) rfl ?_
  refine Ev.imul dX8_fixes_8 (Eq.refl 9) ?_
  refine Ev.iadd dX8_fixes_9 (Eq.refl 10) ?_
  refine Ev.iload_n dX8_fixes_10 (Eq.refl 11) rfl ?_
  refine Ev.iastore dX8_fixes_11 (Eq.refl 12) rfl rfl (by omega) (by decide) (by first | with_reducible exact Int.toNat_natCast _ | exact Eq.refl _) ?_
  refine Ev.aload_n dX8_fixes_12 (Eq.refl 13) rfl ?_
  refine Ev.getR dX8_fixes_13 (Eq.refl 16) fg_X8_13 rfl rfl (rX8_3 hR) ?_
  refine Ev.bipush dX8_fixes_16 (Eq.refl 18) (by decide) ?_
  refine Ev.iconst dX8_fixes_18 (Eq.refl 19) ?_
  refine Ev.iload_n dX8_fixes_19 (Eq.refl 20) rfl ?_
  refine Ev.imul dX8_fixes_20 (Eq.refl 21) ?_
  refine Ev.iadd dX8_fixes_21 (Eq.refl 22) ?_
  refine Ev.iconst dX8_fixes_22 (Eq.refl 23) ?_
  refine Ev.iadd dX8_fixes_23 (Eq.refl 24) ?_
  refine Ev.iload_n dX8_fixes_24 (Eq.refl 25) rfl ?_
  refine Ev.iastore dX8_fixes_25 (Eq.refl 26) rfl rfl (by omega) (by decide) (by first | with_reducible exact Int.toNat_natCast _ | exact Eq.refl _) ?_
  refine Ev.aload_n dX8_fixes_26 (Eq.refl 27) rfl ?_
  refine Ev.getR dX8_fixes_27 (Eq.refl 30) fg_X8_13 rfl rfl (rX8_3 hR) ?_
  refine Ev.bipush dX8_fixes_30 (Eq.refl 32) (by decide) ?_
  refine Ev.iconst dX8_fixes_32 (Eq.refl 33) ?_
  refine Ev.iload_n dX8_fixes_33 (Eq.refl 34) rfl ?_
  refine Ev.imul dX8_fixes_34 (Eq.refl 35) ?_
  refine Ev.iadd dX8_fixes_35 (Eq.refl 36) ?_
  refine Ev.iconst dX8_fixes_36 (Eq.refl 37) ?_
  refine Ev.iadd dX8_fixes_37 (Eq.refl 38) ?_
  refine Ev.iload dX8_fixes_38 (Eq.refl 40) rfl ?_
  refine Ev.iastore dX8_fixes_40 (Eq.refl 41) rfl rfl (by omega) (by decide) (by first | with_reducible exact Int.toNat_natCast _ | exact Eq.refl _) ?_
  exact Ev.vret dX8_fixes_41 rfl (⟨rfl, by rw [show ((14 : Int) + 3 * (j : Int)).toNat = 14 + 3 * j by omega, show ((14 : Int) + 3 * (j : Int) + 1).toNat = 14 + 3 * j + 1 by omega, show ((14 : Int) + 3 * (j : Int) + 2).toNat = 14 + 3 * j + 2 by omega]⟩)
theorem m_ties {h : Hp} {j : Nat} {a b q w : Int} (hR : MOk h.2.2) (hj : j < 14) : Ev mX8_ties 0 0 (entL [.ref 0, iv (j : Int), iv a, iv b, iv q, iv w] 6) [] h (PV (fun h' => h' = hI (hI (hI (hI h 2 (54 + 5 * j) a) 2 (54 + 5 * j + 1) b) 2 (54 + 5 * j + 2) q) 2 (54 + 5 * j + 3) w)) := by
  show Ev mX8_ties 0 0 [some (.ref 0), some (iv (j : Int)), some (iv a), some (iv b), some (iv q), some (iv w)] [] h _
  refine Ev.aload_n dX8_ties_0 (Eq.refl 1) rfl ?_
  refine Ev.getR dX8_ties_1 (Eq.refl 4) fg_X8_13 rfl rfl (rX8_3 hR) ?_
  refine Ev.bipush dX8_ties_4 (Eq.refl 6) (by decide) ?_
  refine Ev.iconst dX8_ties_6 (Eq.refl 7) ?_
  refine Ev.iload_n dX8_ties_7 (Eq.refl 8) rfl ?_
  refine Ev.imul dX8_ties_8 (Eq.refl 9) ?_
  refine Ev.iadd dX8_ties_9 (Eq.refl 10) ?_
  refine Ev.iload_n dX8_ties_10 (Eq.refl 11) rfl ?_
  refine Ev.iastore dX8_ties_11 (Eq.refl 12) rfl rfl (by omega) (by decide) (by first | with_reducible exact Int.toNat_natCast _ | exact Eq.refl _) ?_
  refine Ev.aload_n dX8_ties_12 (Eq.refl 13) rfl ?_
  refine Ev.getR dX8_ties_13 (Eq.refl 16) fg_X8_13 rfl rfl (rX8_3 hR) ?_
  refine Ev.bipush dX8_ties_16 (Eq.refl 18) (by decide) ?_
  refine Ev.iconst dX8_ties_18 (Eq.refl 19) ?_
  refine Ev.iload_n dX8_ties_19 (Eq.refl 20) rfl ?_
  refine Ev.imul dX8_ties_20 (Eq.refl 21) ?_
  refine Ev.iadd dX8_ties_21 (Eq.refl 22) ?_
  refine Ev.iconst dX8_ties_22 (Eq.refl 23) ?_
  refine Ev.iadd dX8_ties_23 (Eq.refl 24) ?_
  refine Ev.iload_n dX8_ties_24 (Eq.refl 25) rfl ?_
  refine Ev.iastore dX8_ties_25 (Eq.refl 26) rfl rfl (by omega) (by decide) (by first | with_reducible exact Int.toNat_natCast _ | exact Eq.refl _) ?_
  refine Ev.aload_n dX8_ties_26 (Eq.refl 27) rfl ?_
  refine Ev.getR dX8_ties_27 (Eq.refl 30) fg_X8_13 rfl rfl (rX8_3 hR) ?_
  refine Ev.bipush dX8_ties_30 (Eq.refl 32) (by decide) ?_
  refine Ev.iconst dX8_ties_32 (Eq.refl 33) ?_
  refine Ev.iload_n dX8_ties_33 (Eq.refl 34) rfl ?_
  refine Ev.imul dX8_ties_34 (Eq.refl 35) ?_
  refine Ev.iadd dX8_ties_35 (Eq.refl 36) ?_
  refine Ev.iconst dX8_ties_36 (Eq.refl 37) ?_
  refine Ev.iadd dX8_ties_37 (Eq.refl 38) ?_
  refine Ev.iload dX8_ties_38 (Eq.refl 40) rfl ?_
  refine Ev.iastore dX8_ties_40 (Eq.refl 41) rfl rfl (by omega) (by decide) (by first | with_reducible exact Int.toNat_natCast _ | exact Eq.refl _) ?_
  refine Ev.aload_n dX8_ties_41 (Eq.refl 42) rfl ?_
  refine Ev.getR dX8_ties_42 (Eq.refl 45) fg_X8_13 rfl rfl (rX8_3 hR) ?_
  refine Ev.bipush dX8_ties_45 (Eq.refl 47) (by decide) ?_
  refine Ev.iconst dX8_ties_47 (Eq.refl 48) ?_
  refine Ev.iload_n dX8_ties_48 (Eq.refl 49) rfl ?_
  refine Ev.imul dX8_ties_49 (Eq.refl 50) ?_
  refine Ev.iadd dX8_ties_50 (Eq.refl 51) ?_
  refine Ev.iconst dX8_ties_51 (Eq.refl 52) ?_
  refine Ev.iadd dX8_ties_52 (Eq.refl 53) ?_
  refine Ev.iload dX8_ties_53 (Eq.refl 55) rfl ?_
  refine Ev.iastore dX8_ties_55 (Eq.refl 56) rfl rfl (by omega) (by decide) (by first | with_reducible exact Int.toNat_natCast _ | exact Eq.refl _) ?_
  exact Ev.vret dX8_ties_56 rfl (⟨rfl, by rw [show ((54 : Int) + 5 * (j : Int)).toNat = 54 + 5 * j by omega, show ((54 : Int) + 5 * (j : Int) + 1).toNat = 54 + 5 * j + 1 by omega, show ((54 : Int) + 5 * (j : Int) + 2).toNat = 54 + 5 * j + 2 by omega, show ((54 : Int) + 5 * (j : Int) + 3).toNat = 54 + 5 * j + 3 by omega]⟩)
def wM : List (Nat × Int) := [(3, 5), (2, 60), (77, 30), (76, 2), (75, 5), (74, 3), (72, 25), (71, 1), (70, 5), (69, 2), (67, 18), (66, 3), (65, 5), (64, 4), (62, 0), (61, 2), (60, 4), (59, 1), (57, 30), (56, 1), (55, 4), (54, 0), (1, 5), (49, (-5)), (9, 1), (8, 1), (25, 5), (24, 40), (23, 40), (22, 20), (21, 40), (20, 0), (19, 30), (18, 0), (17, 40), (16, 10), (15, 0), (14, 0), (0, 6)]
def GoodM (h : Hp) : Prop := MOk h.2.2 ∧ h.1 2 = upL wM ∧ h.1 0 2 = 0 ∧ h.1 0 6 = 0
theorem m8_tail : Ev mX8_init 1 135 [some (.ref 0)] [] (hM (upL [])) (fun v h' => v = none ∧ GoodM h') := by
  refine Ev.aload_n dX8_init_135 (Eq.refl 136) rfl ?_
  refine Ev.getR (r := 2) dX8_init_136 (Eq.refl 139) fg_X8_13 rfl rfl rfl ?_
  refine Ev.iconst dX8_init_139 (Eq.refl 140) ?_
  refine Ev.bipush dX8_init_140 (Eq.refl 142) (by decide) ?_
  refine Ev.iastore (q := 0) dX8_init_142 (Eq.refl 143) rfl rfl (by decide) (by decide) rfl ?_
  rw [hM_w]
  refine Ev.aload_n dX8_init_143 (Eq.refl 144) rfl ?_
  refine Ev.iconst dX8_init_144 (Eq.refl 145) ?_
  refine Ev.iconst dX8_init_145 (Eq.refl 146) ?_
  refine Ev.iconst dX8_init_146 (Eq.refl 147) ?_
  refine Ev.bipush dX8_init_147 (Eq.refl 149) (by decide) ?_
  refine Ev.callV (as := [iv 0, iv 0, iv 0, iv 10]) (rest := []) rfl dX8_init_149 (Eq.refl 152) cw_X8_61 rfl (Nat.le_of_ble_eq_true rfl) (by decide) rfl rfl rfl (by decide) (m_fixes (j := 0) R0m_ok (by decide)) (fun v h' hp => ?_)
  obtain ⟨rfl, rfl⟩ := hp
  rw [hM_w, hM_w, hM_w]
  refine Ev.aload_n dX8_init_152 (Eq.refl 153) rfl ?_
  refine Ev.iconst dX8_init_153 (Eq.refl 154) ?_
  refine Ev.bipush dX8_init_154 (Eq.refl 156) (by decide) ?_
  refine Ev.iconst dX8_init_156 (Eq.refl 157) ?_
  refine Ev.bipush dX8_init_157 (Eq.refl 159) (by decide) ?_
  refine Ev.callV (as := [iv 1, iv 40, iv 0, iv 30]) (rest := []) rfl dX8_init_159 (Eq.refl 162) cw_X8_61 rfl (Nat.le_of_ble_eq_true rfl) (by decide) rfl rfl rfl (by decide) (m_fixes (j := 1) R0m_ok (by decide)) (fun v h' hp => ?_)
  obtain ⟨rfl, rfl⟩ := hp
  rw [hM_w, hM_w, hM_w]
  refine Ev.aload_n dX8_init_162 (Eq.refl 163) rfl ?_
  refine Ev.iconst dX8_init_163 (Eq.refl 164) ?_
  refine Ev.iconst dX8_init_164 (Eq.refl 165) ?_
  refine Ev.bipush dX8_init_165 (Eq.refl 167) (by decide) ?_
  refine Ev.bipush dX8_init_167 (Eq.refl 169) (by decide) ?_
  refine Ev.callV (as := [iv 2, iv 0, iv 40, iv 20]) (rest := []) rfl dX8_init_169 (Eq.refl 172) cw_X8_61 rfl (Nat.le_of_ble_eq_true rfl) (by decide) rfl rfl rfl (by decide) (m_fixes (j := 2) R0m_ok (by decide)) (fun v h' hp => ?_)
  obtain ⟨rfl, rfl⟩ := hp
  rw [hM_w, hM_w, hM_w]
  refine Ev.aload_n dX8_init_172 (Eq.refl 173) rfl ?_
  refine Ev.iconst dX8_init_173 (Eq.refl 174) ?_
  refine Ev.bipush dX8_init_174 (Eq.refl 176) (by decide) ?_
  refine Ev.bipush dX8_init_176 (Eq.refl 178) (by decide) ?_
  refine Ev.iconst dX8_init_178 (Eq.refl 179) ?_
  refine Ev.callV (as := [iv 3, iv 40, iv 40, iv 5]) (rest := []) rfl dX8_init_179 (Eq.refl 182) cw_X8_61 rfl (Nat.le_of_ble_eq_true rfl) (by decide) rfl rfl rfl (by decide) (m_fixes (j := 3) R0m_ok (by decide)) (fun v h' hp => ?_)
  obtain ⟨rfl, rfl⟩ := hp
  rw [hM_w, hM_w, hM_w]
  refine Ev.aload_n dX8_init_182 (Eq.refl 183) rfl ?_
  refine Ev.getR (r := 2) dX8_init_183 (Eq.refl 186) fg_X8_13 rfl rfl rfl ?_
  refine Ev.bipush dX8_init_186 (Eq.refl 188) (by decide) ?_
  refine Ev.iconst dX8_init_188 (Eq.refl 189) ?_
  refine Ev.iastore (q := 8) dX8_init_189 (Eq.refl 190) rfl rfl (by decide) (by decide) rfl ?_
  rw [hM_w]
  refine Ev.aload_n dX8_init_190 (Eq.refl 191) rfl ?_
  refine Ev.getR (r := 2) dX8_init_191 (Eq.refl 194) fg_X8_13 rfl rfl rfl ?_
  refine Ev.bipush dX8_init_194 (Eq.refl 196) (by decide) ?_
  refine Ev.iconst dX8_init_196 (Eq.refl 197) ?_
  refine Ev.iastore (q := 9) dX8_init_197 (Eq.refl 198) rfl rfl (by decide) (by decide) rfl ?_
  rw [hM_w]
  refine Ev.aload_n dX8_init_198 (Eq.refl 199) rfl ?_
  refine Ev.getR (r := 2) dX8_init_199 (Eq.refl 202) fg_X8_13 rfl rfl rfl ?_
  refine Ev.bipush dX8_init_202 (Eq.refl 204) (by decide) ?_
  refine Ev.bipush dX8_init_204 (Eq.refl 206) (by decide) ?_
  refine Ev.iastore (q := 49) dX8_init_206 (Eq.refl 207) rfl rfl (by decide) (by decide) rfl ?_
  rw [hM_w]
  refine Ev.aload_n dX8_init_207 (Eq.refl 208) rfl ?_
  refine Ev.getR (r := 2) dX8_init_208 (Eq.refl 211) fg_X8_13 rfl rfl rfl ?_
  refine Ev.iconst dX8_init_211 (Eq.refl 212) ?_
  refine Ev.iconst dX8_init_212 (Eq.refl 213) ?_
  refine Ev.iastore (q := 1) dX8_init_213 (Eq.refl 214) rfl rfl (by decide) (by decide) rfl ?_
  rw [hM_w]
  refine Ev.aload_n dX8_init_214 (Eq.refl 215) rfl ?_
  refine Ev.iconst dX8_init_215 (Eq.refl 216) ?_
  refine Ev.iconst dX8_init_216 (Eq.refl 217) ?_
  refine Ev.iconst dX8_init_217 (Eq.refl 218) ?_
  refine Ev.iconst dX8_init_218 (Eq.refl 219) ?_
  refine Ev.bipush dX8_init_219 (Eq.refl 221) (by decide) ?_
  refine Ev.callV (as := [iv 0, iv 0, iv 4, iv 1, iv 30]) (rest := []) rfl dX8_init_221 (Eq.refl 224) cw_X8_65 rfl (Nat.le_of_ble_eq_true rfl) (by decide) rfl rfl rfl (by decide) (m_ties (j := 0) R0m_ok (by decide)) (fun v h' hp => ?_)
  obtain ⟨rfl, rfl⟩ := hp
  rw [hM_w, hM_w, hM_w, hM_w]
  refine Ev.aload_n dX8_init_224 (Eq.refl 225) rfl ?_
  refine Ev.iconst dX8_init_225 (Eq.refl 226) ?_
  refine Ev.iconst dX8_init_226 (Eq.refl 227) ?_
  refine Ev.iconst dX8_init_227 (Eq.refl 228) ?_
  refine Ev.iconst dX8_init_228 (Eq.refl 229) ?_
  refine Ev.iconst dX8_init_229 (Eq.refl 230) ?_
  refine Ev.callV (as := [iv 1, iv 1, iv 4, iv 2, iv 0]) (rest := []) rfl dX8_init_230 (Eq.refl 233) cw_X8_65 rfl (Nat.le_of_ble_eq_true rfl) (by decide) rfl rfl rfl (by decide) (m_ties (j := 1) R0m_ok (by decide)) (fun v h' hp => ?_)
  obtain ⟨rfl, rfl⟩ := hp
  rw [hM_w, hM_w, hM_w, hM_w]
  refine Ev.aload_n dX8_init_233 (Eq.refl 234) rfl ?_
  refine Ev.iconst dX8_init_234 (Eq.refl 235) ?_
  refine Ev.iconst dX8_init_235 (Eq.refl 236) ?_
  refine Ev.iconst dX8_init_236 (Eq.refl 237) ?_
  refine Ev.iconst dX8_init_237 (Eq.refl 238) ?_
  refine Ev.bipush dX8_init_238 (Eq.refl 240) (by decide) ?_
  refine Ev.callV (as := [iv 2, iv 4, iv 5, iv 3, iv 18]) (rest := []) rfl dX8_init_240 (Eq.refl 243) cw_X8_65 rfl (Nat.le_of_ble_eq_true rfl) (by decide) rfl rfl rfl (by decide) (m_ties (j := 2) R0m_ok (by decide)) (fun v h' hp => ?_)
  obtain ⟨rfl, rfl⟩ := hp
  rw [hM_w, hM_w, hM_w, hM_w]
  refine Ev.aload_n dX8_init_243 (Eq.refl 244) rfl ?_
  refine Ev.iconst dX8_init_244 (Eq.refl 245) ?_
  refine Ev.iconst dX8_init_245 (Eq.refl 246) ?_
  refine Ev.iconst dX8_init_246 (Eq.refl 247) ?_
  refine Ev.iconst dX8_init_247 (Eq.refl 248) ?_
  refine Ev.bipush dX8_init_248 (Eq.refl 250) (by decide) ?_
  refine Ev.callV (as := [iv 3, iv 2, iv 5, iv 1, iv 25]) (rest := []) rfl dX8_init_250 (Eq.refl 253) cw_X8_65 rfl (Nat.le_of_ble_eq_true rfl) (by decide) rfl rfl rfl (by decide) (m_ties (j := 3) R0m_ok (by decide)) (fun v h' hp => ?_)
  obtain ⟨rfl, rfl⟩ := hp
  rw [hM_w, hM_w, hM_w, hM_w]
  refine Ev.aload_n dX8_init_253 (Eq.refl 254) rfl ?_
  refine Ev.iconst dX8_init_254 (Eq.refl 255) ?_
  refine Ev.iconst dX8_init_255 (Eq.refl 256) ?_
  refine Ev.iconst dX8_init_256 (Eq.refl 257) ?_
  refine Ev.iconst dX8_init_257 (Eq.refl 258) ?_
  refine Ev.bipush dX8_init_258 (Eq.refl 260) (by decide) ?_
  refine Ev.callV (as := [iv 4, iv 3, iv 5, iv 2, iv 30]) (rest := []) rfl dX8_init_260 (Eq.refl 263) cw_X8_65 rfl (Nat.le_of_ble_eq_true rfl) (by decide) rfl rfl rfl (by decide) (m_ties (j := 4) R0m_ok (by decide)) (fun v h' hp => ?_)
  obtain ⟨rfl, rfl⟩ := hp
  rw [hM_w, hM_w, hM_w, hM_w]
  refine Ev.aload_n dX8_init_263 (Eq.refl 264) rfl ?_
  refine Ev.getR (r := 2) dX8_init_264 (Eq.refl 267) fg_X8_13 rfl rfl rfl ?_
  refine Ev.iconst dX8_init_267 (Eq.refl 268) ?_
  refine Ev.bipush dX8_init_268 (Eq.refl 270) (by decide) ?_
  refine Ev.iastore (q := 2) dX8_init_270 (Eq.refl 271) rfl rfl (by decide) (by decide) rfl ?_
  rw [hM_w]
  refine Ev.aload_n dX8_init_271 (Eq.refl 272) rfl ?_
  refine Ev.getR (r := 2) dX8_init_272 (Eq.refl 275) fg_X8_13 rfl rfl rfl ?_
  refine Ev.iconst dX8_init_275 (Eq.refl 276) ?_
  refine Ev.iconst dX8_init_276 (Eq.refl 277) ?_
  refine Ev.iastore (q := 3) dX8_init_277 (Eq.refl 278) rfl rfl (by decide) (by decide) rfl ?_
  rw [hM_w]
  exact Ev.vret dX8_init_278 rfl ⟨rfl, R0m_ok, rfl, rfl, rfl⟩
abbrev bX8 : List Value := [iv 0, .null, iv 0, .null, .null, .null, iv 0, .null, iv 0, iv 0, .null, .null, .null, .null, iv 0, jv 0, .null, .null, .null, .null, .null, iv 0, .null, .null]
def EX8 (_ : Nat → Prop) (_ : State) : Prop := True
set_option maxHeartbeats 400000 in
theorem con8_P {D : va_G} {cy : Nat → ClassId} {H : Heap} {a0 q1 q2 q3 q4 q5 q6 q7 q8 q9 q10 q11 q12 q13 q14 q15 q16 : Nat} (hP : va_P D vwCl [(a0, .inr (8, [iv 0, .ref q1, iv 0, .ref q2, .ref q3, .ref q4, iv 0, .ref q5, iv 0, iv 0, .ref q6, .ref q7, .ref q8, .ref q9, iv 0, jv 0, .ref q10, .ref q11, .ref q12, .ref q13, .ref q14, iv 0, .ref q15, .ref q16])), (q1, .inl (cy 2, 200, .inl (fun _ => Int32.ofInt 0))), (q2, .inl (cy 0, 124, .inl (fun _ => Int32.ofInt 0))), (q3, .inl (cy 0, 124, .inl (fun _ => Int32.ofInt 0))), (q4, .inl (cy 0, 744, .inl (fun _ => Int32.ofInt 0))), (q5, .inl (cy 0, 124, .inl (fun _ => Int32.ofInt 0))), (q6, .inl (cy 0, 4, .inl (fun _ => Int32.ofInt 0))), (q7, .inl (cy 3, 10, .inl (fun _ => Int32.ofInt 0))), (q8, .inl (cy 1, 40, .inr (.inl (fun _ => Int64.ofInt 0)))), (q9, .inl (cy 0, 10, .inl (fun _ => Int32.ofInt 0))), (q10, .inl (cy 1, 30, .inr (.inl (fun _ => Int64.ofInt 0)))), (q11, .inl (cy 0, 30, .inl (fun _ => Int32.ofInt 0))), (q12, .inl (cy 0, 14, .inl (fun _ => Int32.ofInt 0))), (q13, .inl (cy 0, 14, .inl (fun _ => Int32.ofInt 0))), (q14, .inl (cy 0, 14, .inl (fun _ => Int32.ofInt 0))), (q15, .inl (cy 0, 16384, .inl (fun _ => Int32.ofInt 0))), (q16, .inl (cy 0, 16384, .inl (fun _ => Int32.ofInt 0)))] H) : va_P D vwCl (lws mLy cy (fun i => ([a0, q1, q2, q3, q4, q5, q6, q7, q8, q9, q10, q11, q12, q13, q14, q15, q16] : List Nat).getD i 0) (hM (upL []))) H := P_of (fun id hi => by
  have hi : id < 17 := hi
  match id, hi with
  | 0, _ =>
    refine ⟨.inl (8, modK), rfl, at_e (e := .inr (8, [iv 0, .ref q1, iv 0, .ref q2, .ref q3, .ref q4, iv 0, .ref q5, iv 0, iv 0, .ref q6, .ref q7, .ref q8, .ref q9, iv 0, jv 0, .ref q10, .ref q11, .ref q12, .ref q13, .ref q14, iv 0, .ref q15, .ref q16])) ?_ (hP 0 _ rfl)⟩
    show Sum.inr (8, _) = Sum.inr (8, modK.mapIdx (fun k kd => fvl (fun i => ([a0, q1, q2, q3, q4, q5, q6, q7, q8, q9, q10, q11, q12, q13, q14, q15, q16] : List Nat).getD i 0) (hM (upL [])) 0 k kd))
    unfold modK
    simp only [List.mapIdx_cons, List.mapIdx_nil]
    rfl
  | 1, _ => exact ⟨_, rfl, hP 1 _ rfl⟩
  | 2, _ => exact ⟨_, rfl, hP 2 _ rfl⟩
  | 3, _ => exact ⟨_, rfl, hP 3 _ rfl⟩
  | 4, _ => exact ⟨_, rfl, hP 4 _ rfl⟩
  | 5, _ => exact ⟨_, rfl, hP 5 _ rfl⟩
  | 6, _ => exact ⟨_, rfl, hP 6 _ rfl⟩
  | 7, _ => exact ⟨_, rfl, hP 7 _ rfl⟩
  | 8, _ => exact ⟨_, rfl, hP 8 _ rfl⟩
  | 9, _ => exact ⟨_, rfl, hP 9 _ rfl⟩
  | 10, _ => exact ⟨_, rfl, hP 10 _ rfl⟩
  | 11, _ => exact ⟨_, rfl, hP 11 _ rfl⟩
  | 12, _ => exact ⟨_, rfl, hP 12 _ rfl⟩
  | 13, _ => exact ⟨_, rfl, hP 13 _ rfl⟩
  | 14, _ => exact ⟨_, rfl, hP 14 _ rfl⟩
  | 15, _ => exact ⟨_, rfl, hP 15 _ rfl⟩
  | 16, _ => exact ⟨_, rfl, hP 16 _ rfl⟩
  | k + 17, hk => exact absurd hk (by omega))
set_option maxHeartbeats 400000 in
theorem con8_D {A : Nat → Prop} {cy : Nat → ClassId} {a0 q1 q2 q3 q4 q5 q6 q7 q8 q9 q10 q11 q12 q13 q14 q15 q16 : Nat} (hD : va_D A [(a0, .inr (8, [iv 0, .ref q1, iv 0, .ref q2, .ref q3, .ref q4, iv 0, .ref q5, iv 0, iv 0, .ref q6, .ref q7, .ref q8, .ref q9, iv 0, jv 0, .ref q10, .ref q11, .ref q12, .ref q13, .ref q14, iv 0, .ref q15, .ref q16])), (q1, .inl (cy 2, 200, .inl (fun _ => Int32.ofInt 0))), (q2, .inl (cy 0, 124, .inl (fun _ => Int32.ofInt 0))), (q3, .inl (cy 0, 124, .inl (fun _ => Int32.ofInt 0))), (q4, .inl (cy 0, 744, .inl (fun _ => Int32.ofInt 0))), (q5, .inl (cy 0, 124, .inl (fun _ => Int32.ofInt 0))), (q6, .inl (cy 0, 4, .inl (fun _ => Int32.ofInt 0))), (q7, .inl (cy 3, 10, .inl (fun _ => Int32.ofInt 0))), (q8, .inl (cy 1, 40, .inr (.inl (fun _ => Int64.ofInt 0)))), (q9, .inl (cy 0, 10, .inl (fun _ => Int32.ofInt 0))), (q10, .inl (cy 1, 30, .inr (.inl (fun _ => Int64.ofInt 0)))), (q11, .inl (cy 0, 30, .inl (fun _ => Int32.ofInt 0))), (q12, .inl (cy 0, 14, .inl (fun _ => Int32.ofInt 0))), (q13, .inl (cy 0, 14, .inl (fun _ => Int32.ofInt 0))), (q14, .inl (cy 0, 14, .inl (fun _ => Int32.ofInt 0))), (q15, .inl (cy 0, 16384, .inl (fun _ => Int32.ofInt 0))), (q16, .inl (cy 0, 16384, .inl (fun _ => Int32.ofInt 0)))]) : va_D A (lws mLy cy (fun i => ([a0, q1, q2, q3, q4, q5, q6, q7, q8, q9, q10, q11, q12, q13, q14, q15, q16] : List Nat).getD i 0) (hM (upL []))) := D_map (n := 17) (f := (fun i => ([a0, q1, q2, q3, q4, q5, q6, q7, q8, q9, q10, q11, q12, q13, q14, q15, q16] : List Nat).getD i 0)) hD ⟨rfl, fun k hk => by
  match k, hk with
  | 0, _ => exact ⟨_, rfl⟩
  | 1, _ => exact ⟨_, rfl⟩
  | 2, _ => exact ⟨_, rfl⟩
  | 3, _ => exact ⟨_, rfl⟩
  | 4, _ => exact ⟨_, rfl⟩
  | 5, _ => exact ⟨_, rfl⟩
  | 6, _ => exact ⟨_, rfl⟩
  | 7, _ => exact ⟨_, rfl⟩
  | 8, _ => exact ⟨_, rfl⟩
  | 9, _ => exact ⟨_, rfl⟩
  | 10, _ => exact ⟨_, rfl⟩
  | 11, _ => exact ⟨_, rfl⟩
  | 12, _ => exact ⟨_, rfl⟩
  | 13, _ => exact ⟨_, rfl⟩
  | 14, _ => exact ⟨_, rfl⟩
  | 15, _ => exact ⟨_, rfl⟩
  | 16, _ => exact ⟨_, rfl⟩
  | k + 17, hk => exact absurd hk (by omega)⟩ (fun i => i) (fun i hi => ⟨hi, rfl⟩) (fun _ _ _ _ e => e)
set_option maxHeartbeats 600000 in
theorem k_X8 (l : Launch) (D : va_G) (cy : Nat → ClassId) : RgMet l mLy EX8 GoodM D cy yX8_init cX8_init 1 (rmc 1 16 34250) 8 bX8 16 34250 := by
  refine RgMet.of (own := RX8) (by decide) rfl rfl (by decide) ?_
  intro a0 p e s m args below meth c ls F hl hK hAO hE hP hD
  have hx := F.1
  have hb := F.2.1
  have hS : va_S (va_A [(a0, .inr (8, bX8))] s.heap.size) s.heap s.heap [] := va_S.rf
  have hA : ∀ q, s.heap.size ≤ q → (va_A [(a0, .inr (8, bX8))] s.heap.size) q := fun q h => Or.inr h
  refine lv_aload_n hx hb dX8_init_0 rfl (lv_at hl 0 rfl) ?_
  refine Woi F hl.1 oi_X8 (by decide) (by decide) dX8_init_1 ?_
  refine lv_aload_n hx hb dX8_init_4 rfl (lv_at hl 0 rfl) ?_
  refine lv_sipush hx hb dX8_init_5 (v := Int32.ofInt 200) (by decide) ?_
  refine Wnewa (atype := .byte) (ty := .byte) (Ly := mLy) (i := 2) (n := 200) (a0 := (200, .inl (fun _ => Int32.ofInt 0))) F ac_byte rfl rfl hK hP hD hS hA (zI_byte 200) (by decide) (by decide) (Nat.le_of_ble_eq_true rfl) (Nat.le_of_ble_eq_true rfl) dX8_init_8 (fun q1 H hP hD hS => ?_)
  have hP : va_P D vwCl [(a0, .inr (8, [iv 0, .null, iv 0, .null, .null, .null, iv 0, .null, iv 0, iv 0, .null, .null, .null, .null, iv 0, jv 0, .null, .null, .null, .null, .null, iv 0, .null, .null])), (q1, .inl (cy 2, 200, .inl (fun _ => Int32.ofInt 0)))] H := hP
  have hD : va_D (va_A [(a0, .inr (8, bX8))] s.heap.size) [(a0, .inr (8, [iv 0, .null, iv 0, .null, .null, .null, iv 0, .null, iv 0, iv 0, .null, .null, .null, .null, iv 0, jv 0, .null, .null, .null, .null, .null, iv 0, .null, .null])), (q1, .inl (cy 2, 200, .inl (fun _ => Int32.ofInt 0)))] := hD
  refine Wputf F ff_X8_7 hK hP hD hS rfl rfl (Nat.le_of_ble_eq_true rfl) dX8_init_10 (fun H locs hP hD hS => ?_)
  have hP : va_P D vwCl [(a0, .inr (8, [iv 0, .ref q1, iv 0, .null, .null, .null, iv 0, .null, iv 0, iv 0, .null, .null, .null, .null, iv 0, jv 0, .null, .null, .null, .null, .null, iv 0, .null, .null])), (q1, .inl (cy 2, 200, .inl (fun _ => Int32.ofInt 0)))] H := hP
  have hD : va_D (va_A [(a0, .inr (8, bX8))] s.heap.size) [(a0, .inr (8, [iv 0, .ref q1, iv 0, .null, .null, .null, iv 0, .null, iv 0, iv 0, .null, .null, .null, .null, iv 0, jv 0, .null, .null, .null, .null, .null, iv 0, .null, .null])), (q1, .inl (cy 2, 200, .inl (fun _ => Int32.ofInt 0)))] := hD
  refine lv_aload_n hx hb dX8_init_13 rfl (lv_at hl 0 rfl) ?_
  refine lv_bipush hx hb dX8_init_14 (v := Int32.ofInt 124) (by decide) ?_
  refine Wnewa (atype := .int) (ty := .int) (Ly := mLy) (i := 0) (n := 124) (a0 := (124, .inl (fun _ => Int32.ofInt 0))) F ac_int rfl rfl hK hP hD hS hA (zI_int 124) (by decide) (by decide) (Nat.le_of_ble_eq_true rfl) (Nat.le_of_ble_eq_true rfl) dX8_init_16 (fun q2 H hP hD hS => ?_)
  have hP : va_P D vwCl [(a0, .inr (8, [iv 0, .ref q1, iv 0, .null, .null, .null, iv 0, .null, iv 0, iv 0, .null, .null, .null, .null, iv 0, jv 0, .null, .null, .null, .null, .null, iv 0, .null, .null])), (q1, .inl (cy 2, 200, .inl (fun _ => Int32.ofInt 0))), (q2, .inl (cy 0, 124, .inl (fun _ => Int32.ofInt 0)))] H := hP
  have hD : va_D (va_A [(a0, .inr (8, bX8))] s.heap.size) [(a0, .inr (8, [iv 0, .ref q1, iv 0, .null, .null, .null, iv 0, .null, iv 0, iv 0, .null, .null, .null, .null, iv 0, jv 0, .null, .null, .null, .null, .null, iv 0, .null, .null])), (q1, .inl (cy 2, 200, .inl (fun _ => Int32.ofInt 0))), (q2, .inl (cy 0, 124, .inl (fun _ => Int32.ofInt 0)))] := hD
  refine Wputf F ff_X8_13 hK hP hD hS rfl rfl (Nat.le_of_ble_eq_true rfl) dX8_init_18 (fun H locs hP hD hS => ?_)
  have hP : va_P D vwCl [(a0, .inr (8, [iv 0, .ref q1, iv 0, .ref q2, .null, .null, iv 0, .null, iv 0, iv 0, .null, .null, .null, .null, iv 0, jv 0, .null, .null, .null, .null, .null, iv 0, .null, .null])), (q1, .inl (cy 2, 200, .inl (fun _ => Int32.ofInt 0))), (q2, .inl (cy 0, 124, .inl (fun _ => Int32.ofInt 0)))] H := hP
  have hD : va_D (va_A [(a0, .inr (8, bX8))] s.heap.size) [(a0, .inr (8, [iv 0, .ref q1, iv 0, .ref q2, .null, .null, iv 0, .null, iv 0, iv 0, .null, .null, .null, .null, iv 0, jv 0, .null, .null, .null, .null, .null, iv 0, .null, .null])), (q1, .inl (cy 2, 200, .inl (fun _ => Int32.ofInt 0))), (q2, .inl (cy 0, 124, .inl (fun _ => Int32.ofInt 0)))] := hD
  refine lv_aload_n hx hb dX8_init_21 rfl (lv_at hl 0 rfl) ?_
  refine lv_bipush hx hb dX8_init_22 (v := Int32.ofInt 124) (by decide) ?_
  refine Wnewa (atype := .int) (ty := .int) (Ly := mLy) (i := 0) (n := 124) (a0 := (124, .inl (fun _ => Int32.ofInt 0))) F ac_int rfl rfl hK hP hD hS hA (zI_int 124) (by decide) (by decide) (Nat.le_of_ble_eq_true rfl) (Nat.le_of_ble_eq_true rfl) dX8_init_24 (fun q3 H hP hD hS => ?_)
  have hP : va_P D vwCl [(a0, .inr (8, [iv 0, .ref q1, iv 0, .ref q2, .null, .null, iv 0, .null, iv 0, iv 0, .null, .null, .null, .null, iv 0, jv 0, .null, .null, .null, .null, .null, iv 0, .null, .null])), (q1, .inl (cy 2, 200, .inl (fun _ => Int32.ofInt 0))), (q2, .inl (cy 0, 124, .inl (fun _ => Int32.ofInt 0))), (q3, .inl (cy 0, 124, .inl (fun _ => Int32.ofInt 0)))] H := hP
  have hD : va_D (va_A [(a0, .inr (8, bX8))] s.heap.size) [(a0, .inr (8, [iv 0, .ref q1, iv 0, .ref q2, .null, .null, iv 0, .null, iv 0, iv 0, .null, .null, .null, .null, iv 0, jv 0, .null, .null, .null, .null, .null, iv 0, .null, .null])), (q1, .inl (cy 2, 200, .inl (fun _ => Int32.ofInt 0))), (q2, .inl (cy 0, 124, .inl (fun _ => Int32.ofInt 0))), (q3, .inl (cy 0, 124, .inl (fun _ => Int32.ofInt 0)))] := hD
  refine Wputf F ff_X8_17 hK hP hD hS rfl rfl (Nat.le_of_ble_eq_true rfl) dX8_init_26 (fun H locs hP hD hS => ?_)
  have hP : va_P D vwCl [(a0, .inr (8, [iv 0, .ref q1, iv 0, .ref q2, .ref q3, .null, iv 0, .null, iv 0, iv 0, .null, .null, .null, .null, iv 0, jv 0, .null, .null, .null, .null, .null, iv 0, .null, .null])), (q1, .inl (cy 2, 200, .inl (fun _ => Int32.ofInt 0))), (q2, .inl (cy 0, 124, .inl (fun _ => Int32.ofInt 0))), (q3, .inl (cy 0, 124, .inl (fun _ => Int32.ofInt 0)))] H := hP
  have hD : va_D (va_A [(a0, .inr (8, bX8))] s.heap.size) [(a0, .inr (8, [iv 0, .ref q1, iv 0, .ref q2, .ref q3, .null, iv 0, .null, iv 0, iv 0, .null, .null, .null, .null, iv 0, jv 0, .null, .null, .null, .null, .null, iv 0, .null, .null])), (q1, .inl (cy 2, 200, .inl (fun _ => Int32.ofInt 0))), (q2, .inl (cy 0, 124, .inl (fun _ => Int32.ofInt 0))), (q3, .inl (cy 0, 124, .inl (fun _ => Int32.ofInt 0)))] := hD
  refine lv_aload_n hx hb dX8_init_29 rfl (lv_at hl 0 rfl) ?_
  refine lv_sipush hx hb dX8_init_30 (v := Int32.ofInt 744) (by decide) ?_
  refine Wnewa (atype := .int) (ty := .int) (Ly := mLy) (i := 0) (n := 744) (a0 := (744, .inl (fun _ => Int32.ofInt 0))) F ac_int rfl rfl hK hP hD hS hA (zI_int 744) (by decide) (by decide) (Nat.le_of_ble_eq_true rfl) (Nat.le_of_ble_eq_true rfl) dX8_init_33 (fun q4 H hP hD hS => ?_)
  have hP : va_P D vwCl [(a0, .inr (8, [iv 0, .ref q1, iv 0, .ref q2, .ref q3, .null, iv 0, .null, iv 0, iv 0, .null, .null, .null, .null, iv 0, jv 0, .null, .null, .null, .null, .null, iv 0, .null, .null])), (q1, .inl (cy 2, 200, .inl (fun _ => Int32.ofInt 0))), (q2, .inl (cy 0, 124, .inl (fun _ => Int32.ofInt 0))), (q3, .inl (cy 0, 124, .inl (fun _ => Int32.ofInt 0))), (q4, .inl (cy 0, 744, .inl (fun _ => Int32.ofInt 0)))] H := hP
  have hD : va_D (va_A [(a0, .inr (8, bX8))] s.heap.size) [(a0, .inr (8, [iv 0, .ref q1, iv 0, .ref q2, .ref q3, .null, iv 0, .null, iv 0, iv 0, .null, .null, .null, .null, iv 0, jv 0, .null, .null, .null, .null, .null, iv 0, .null, .null])), (q1, .inl (cy 2, 200, .inl (fun _ => Int32.ofInt 0))), (q2, .inl (cy 0, 124, .inl (fun _ => Int32.ofInt 0))), (q3, .inl (cy 0, 124, .inl (fun _ => Int32.ofInt 0))), (q4, .inl (cy 0, 744, .inl (fun _ => Int32.ofInt 0)))] := hD
  refine Wputf F ff_X8_20 hK hP hD hS rfl rfl (Nat.le_of_ble_eq_true rfl) dX8_init_35 (fun H locs hP hD hS => ?_)
  have hP : va_P D vwCl [(a0, .inr (8, [iv 0, .ref q1, iv 0, .ref q2, .ref q3, .ref q4, iv 0, .null, iv 0, iv 0, .null, .null, .null, .null, iv 0, jv 0, .null, .null, .null, .null, .null, iv 0, .null, .null])), (q1, .inl (cy 2, 200, .inl (fun _ => Int32.ofInt 0))), (q2, .inl (cy 0, 124, .inl (fun _ => Int32.ofInt 0))), (q3, .inl (cy 0, 124, .inl (fun _ => Int32.ofInt 0))), (q4, .inl (cy 0, 744, .inl (fun _ => Int32.ofInt 0)))] H := hP
  have hD : va_D (va_A [(a0, .inr (8, bX8))] s.heap.size) [(a0, .inr (8, [iv 0, .ref q1, iv 0, .ref q2, .ref q3, .ref q4, iv 0, .null, iv 0, iv 0, .null, .null, .null, .null, iv 0, jv 0, .null, .null, .null, .null, .null, iv 0, .null, .null])), (q1, .inl (cy 2, 200, .inl (fun _ => Int32.ofInt 0))), (q2, .inl (cy 0, 124, .inl (fun _ => Int32.ofInt 0))), (q3, .inl (cy 0, 124, .inl (fun _ => Int32.ofInt 0))), (q4, .inl (cy 0, 744, .inl (fun _ => Int32.ofInt 0)))] := hD
  refine lv_aload_n hx hb dX8_init_38 rfl (lv_at hl 0 rfl) ?_
  refine lv_bipush hx hb dX8_init_39 (v := Int32.ofInt 124) (by decide) ?_
  refine Wnewa (atype := .int) (ty := .int) (Ly := mLy) (i := 0) (n := 124) (a0 := (124, .inl (fun _ => Int32.ofInt 0))) F ac_int rfl rfl hK hP hD hS hA (zI_int 124) (by decide) (by decide) (Nat.le_of_ble_eq_true rfl) (Nat.le_of_ble_eq_true rfl) dX8_init_41 (fun q5 H hP hD hS => ?_)
  have hP : va_P D vwCl [(a0, .inr (8, [iv 0, .ref q1, iv 0, .ref q2, .ref q3, .ref q4, iv 0, .null, iv 0, iv 0, .null, .null, .null, .null, iv 0, jv 0, .null, .null, .null, .null, .null, iv 0, .null, .null])), (q1, .inl (cy 2, 200, .inl (fun _ => Int32.ofInt 0))), (q2, .inl (cy 0, 124, .inl (fun _ => Int32.ofInt 0))), (q3, .inl (cy 0, 124, .inl (fun _ => Int32.ofInt 0))), (q4, .inl (cy 0, 744, .inl (fun _ => Int32.ofInt 0))), (q5, .inl (cy 0, 124, .inl (fun _ => Int32.ofInt 0)))] H := hP
  have hD : va_D (va_A [(a0, .inr (8, bX8))] s.heap.size) [(a0, .inr (8, [iv 0, .ref q1, iv 0, .ref q2, .ref q3, .ref q4, iv 0, .null, iv 0, iv 0, .null, .null, .null, .null, iv 0, jv 0, .null, .null, .null, .null, .null, iv 0, .null, .null])), (q1, .inl (cy 2, 200, .inl (fun _ => Int32.ofInt 0))), (q2, .inl (cy 0, 124, .inl (fun _ => Int32.ofInt 0))), (q3, .inl (cy 0, 124, .inl (fun _ => Int32.ofInt 0))), (q4, .inl (cy 0, 744, .inl (fun _ => Int32.ofInt 0))), (q5, .inl (cy 0, 124, .inl (fun _ => Int32.ofInt 0)))] := hD
  refine Wputf F ff_X8_23 hK hP hD hS rfl rfl (Nat.le_of_ble_eq_true rfl) dX8_init_43 (fun H locs hP hD hS => ?_)
  have hP : va_P D vwCl [(a0, .inr (8, [iv 0, .ref q1, iv 0, .ref q2, .ref q3, .ref q4, iv 0, .ref q5, iv 0, iv 0, .null, .null, .null, .null, iv 0, jv 0, .null, .null, .null, .null, .null, iv 0, .null, .null])), (q1, .inl (cy 2, 200, .inl (fun _ => Int32.ofInt 0))), (q2, .inl (cy 0, 124, .inl (fun _ => Int32.ofInt 0))), (q3, .inl (cy 0, 124, .inl (fun _ => Int32.ofInt 0))), (q4, .inl (cy 0, 744, .inl (fun _ => Int32.ofInt 0))), (q5, .inl (cy 0, 124, .inl (fun _ => Int32.ofInt 0)))] H := hP
  have hD : va_D (va_A [(a0, .inr (8, bX8))] s.heap.size) [(a0, .inr (8, [iv 0, .ref q1, iv 0, .ref q2, .ref q3, .ref q4, iv 0, .ref q5, iv 0, iv 0, .null, .null, .null, .null, iv 0, jv 0, .null, .null, .null, .null, .null, iv 0, .null, .null])), (q1, .inl (cy 2, 200, .inl (fun _ => Int32.ofInt 0))), (q2, .inl (cy 0, 124, .inl (fun _ => Int32.ofInt 0))), (q3, .inl (cy 0, 124, .inl (fun _ => Int32.ofInt 0))), (q4, .inl (cy 0, 744, .inl (fun _ => Int32.ofInt 0))), (q5, .inl (cy 0, 124, .inl (fun _ => Int32.ofInt 0)))] := hD
  refine lv_aload_n hx hb dX8_init_46 rfl (lv_at hl 0 rfl) ?_
  refine lv_iconst hx hb dX8_init_47 (v := Int32.ofInt 4) rfl ?_
  refine Wnewa (atype := .int) (ty := .int) (Ly := mLy) (i := 0) (n := 4) (a0 := (4, .inl (fun _ => Int32.ofInt 0))) F ac_int rfl rfl hK hP hD hS hA (zI_int 4) (by decide) (by decide) (Nat.le_of_ble_eq_true rfl) (Nat.le_of_ble_eq_true rfl) dX8_init_48 (fun q6 H hP hD hS => ?_)
  have hP : va_P D vwCl [(a0, .inr (8, [iv 0, .ref q1, iv 0, .ref q2, .ref q3, .ref q4, iv 0, .ref q5, iv 0, iv 0, .null, .null, .null, .null, iv 0, jv 0, .null, .null, .null, .null, .null, iv 0, .null, .null])), (q1, .inl (cy 2, 200, .inl (fun _ => Int32.ofInt 0))), (q2, .inl (cy 0, 124, .inl (fun _ => Int32.ofInt 0))), (q3, .inl (cy 0, 124, .inl (fun _ => Int32.ofInt 0))), (q4, .inl (cy 0, 744, .inl (fun _ => Int32.ofInt 0))), (q5, .inl (cy 0, 124, .inl (fun _ => Int32.ofInt 0))), (q6, .inl (cy 0, 4, .inl (fun _ => Int32.ofInt 0)))] H := hP
  have hD : va_D (va_A [(a0, .inr (8, bX8))] s.heap.size) [(a0, .inr (8, [iv 0, .ref q1, iv 0, .ref q2, .ref q3, .ref q4, iv 0, .ref q5, iv 0, iv 0, .null, .null, .null, .null, iv 0, jv 0, .null, .null, .null, .null, .null, iv 0, .null, .null])), (q1, .inl (cy 2, 200, .inl (fun _ => Int32.ofInt 0))), (q2, .inl (cy 0, 124, .inl (fun _ => Int32.ofInt 0))), (q3, .inl (cy 0, 124, .inl (fun _ => Int32.ofInt 0))), (q4, .inl (cy 0, 744, .inl (fun _ => Int32.ofInt 0))), (q5, .inl (cy 0, 124, .inl (fun _ => Int32.ofInt 0))), (q6, .inl (cy 0, 4, .inl (fun _ => Int32.ofInt 0)))] := hD
  refine Wputf F ff_X8_26 hK hP hD hS rfl rfl (Nat.le_of_ble_eq_true rfl) dX8_init_50 (fun H locs hP hD hS => ?_)
  have hP : va_P D vwCl [(a0, .inr (8, [iv 0, .ref q1, iv 0, .ref q2, .ref q3, .ref q4, iv 0, .ref q5, iv 0, iv 0, .ref q6, .null, .null, .null, iv 0, jv 0, .null, .null, .null, .null, .null, iv 0, .null, .null])), (q1, .inl (cy 2, 200, .inl (fun _ => Int32.ofInt 0))), (q2, .inl (cy 0, 124, .inl (fun _ => Int32.ofInt 0))), (q3, .inl (cy 0, 124, .inl (fun _ => Int32.ofInt 0))), (q4, .inl (cy 0, 744, .inl (fun _ => Int32.ofInt 0))), (q5, .inl (cy 0, 124, .inl (fun _ => Int32.ofInt 0))), (q6, .inl (cy 0, 4, .inl (fun _ => Int32.ofInt 0)))] H := hP
  have hD : va_D (va_A [(a0, .inr (8, bX8))] s.heap.size) [(a0, .inr (8, [iv 0, .ref q1, iv 0, .ref q2, .ref q3, .ref q4, iv 0, .ref q5, iv 0, iv 0, .ref q6, .null, .null, .null, iv 0, jv 0, .null, .null, .null, .null, .null, iv 0, .null, .null])), (q1, .inl (cy 2, 200, .inl (fun _ => Int32.ofInt 0))), (q2, .inl (cy 0, 124, .inl (fun _ => Int32.ofInt 0))), (q3, .inl (cy 0, 124, .inl (fun _ => Int32.ofInt 0))), (q4, .inl (cy 0, 744, .inl (fun _ => Int32.ofInt 0))), (q5, .inl (cy 0, 124, .inl (fun _ => Int32.ofInt 0))), (q6, .inl (cy 0, 4, .inl (fun _ => Int32.ofInt 0)))] := hD
  refine lv_aload_n hx hb dX8_init_53 rfl (lv_at hl 0 rfl) ?_
  refine lv_bipush hx hb dX8_init_54 (v := Int32.ofInt 10) (by decide) ?_
  refine Wnewa (atype := .boolean) (ty := .boolean) (Ly := mLy) (i := 3) (n := 10) (a0 := (10, .inl (fun _ => Int32.ofInt 0))) F ac_boolean rfl rfl hK hP hD hS hA (zI_boolean 10) (by decide) (by decide) (Nat.le_of_ble_eq_true rfl) (Nat.le_of_ble_eq_true rfl) dX8_init_56 (fun q7 H hP hD hS => ?_)
  have hP : va_P D vwCl [(a0, .inr (8, [iv 0, .ref q1, iv 0, .ref q2, .ref q3, .ref q4, iv 0, .ref q5, iv 0, iv 0, .ref q6, .null, .null, .null, iv 0, jv 0, .null, .null, .null, .null, .null, iv 0, .null, .null])), (q1, .inl (cy 2, 200, .inl (fun _ => Int32.ofInt 0))), (q2, .inl (cy 0, 124, .inl (fun _ => Int32.ofInt 0))), (q3, .inl (cy 0, 124, .inl (fun _ => Int32.ofInt 0))), (q4, .inl (cy 0, 744, .inl (fun _ => Int32.ofInt 0))), (q5, .inl (cy 0, 124, .inl (fun _ => Int32.ofInt 0))), (q6, .inl (cy 0, 4, .inl (fun _ => Int32.ofInt 0))), (q7, .inl (cy 3, 10, .inl (fun _ => Int32.ofInt 0)))] H := hP
  have hD : va_D (va_A [(a0, .inr (8, bX8))] s.heap.size) [(a0, .inr (8, [iv 0, .ref q1, iv 0, .ref q2, .ref q3, .ref q4, iv 0, .ref q5, iv 0, iv 0, .ref q6, .null, .null, .null, iv 0, jv 0, .null, .null, .null, .null, .null, iv 0, .null, .null])), (q1, .inl (cy 2, 200, .inl (fun _ => Int32.ofInt 0))), (q2, .inl (cy 0, 124, .inl (fun _ => Int32.ofInt 0))), (q3, .inl (cy 0, 124, .inl (fun _ => Int32.ofInt 0))), (q4, .inl (cy 0, 744, .inl (fun _ => Int32.ofInt 0))), (q5, .inl (cy 0, 124, .inl (fun _ => Int32.ofInt 0))), (q6, .inl (cy 0, 4, .inl (fun _ => Int32.ofInt 0))), (q7, .inl (cy 3, 10, .inl (fun _ => Int32.ofInt 0)))] := hD
  refine Wputf F ff_X8_29 hK hP hD hS rfl rfl (Nat.le_of_ble_eq_true rfl) dX8_init_58 (fun H locs hP hD hS => ?_)
  have hP : va_P D vwCl [(a0, .inr (8, [iv 0, .ref q1, iv 0, .ref q2, .ref q3, .ref q4, iv 0, .ref q5, iv 0, iv 0, .ref q6, .ref q7, .null, .null, iv 0, jv 0, .null, .null, .null, .null, .null, iv 0, .null, .null])), (q1, .inl (cy 2, 200, .inl (fun _ => Int32.ofInt 0))), (q2, .inl (cy 0, 124, .inl (fun _ => Int32.ofInt 0))), (q3, .inl (cy 0, 124, .inl (fun _ => Int32.ofInt 0))), (q4, .inl (cy 0, 744, .inl (fun _ => Int32.ofInt 0))), (q5, .inl (cy 0, 124, .inl (fun _ => Int32.ofInt 0))), (q6, .inl (cy 0, 4, .inl (fun _ => Int32.ofInt 0))), (q7, .inl (cy 3, 10, .inl (fun _ => Int32.ofInt 0)))] H := hP
  have hD : va_D (va_A [(a0, .inr (8, bX8))] s.heap.size) [(a0, .inr (8, [iv 0, .ref q1, iv 0, .ref q2, .ref q3, .ref q4, iv 0, .ref q5, iv 0, iv 0, .ref q6, .ref q7, .null, .null, iv 0, jv 0, .null, .null, .null, .null, .null, iv 0, .null, .null])), (q1, .inl (cy 2, 200, .inl (fun _ => Int32.ofInt 0))), (q2, .inl (cy 0, 124, .inl (fun _ => Int32.ofInt 0))), (q3, .inl (cy 0, 124, .inl (fun _ => Int32.ofInt 0))), (q4, .inl (cy 0, 744, .inl (fun _ => Int32.ofInt 0))), (q5, .inl (cy 0, 124, .inl (fun _ => Int32.ofInt 0))), (q6, .inl (cy 0, 4, .inl (fun _ => Int32.ofInt 0))), (q7, .inl (cy 3, 10, .inl (fun _ => Int32.ofInt 0)))] := hD
  refine lv_aload_n hx hb dX8_init_61 rfl (lv_at hl 0 rfl) ?_
  refine lv_bipush hx hb dX8_init_62 (v := Int32.ofInt 40) (by decide) ?_
  refine Wnewa (atype := .long) (ty := .long) (Ly := mLy) (i := 1) (n := 40) (a0 := (40, .inr (.inl (fun _ => Int64.ofInt 0)))) F ac_long rfl rfl hK hP hD hS hA (zL 40) (by decide) (by decide) (Nat.le_of_ble_eq_true rfl) (Nat.le_of_ble_eq_true rfl) dX8_init_64 (fun q8 H hP hD hS => ?_)
  have hP : va_P D vwCl [(a0, .inr (8, [iv 0, .ref q1, iv 0, .ref q2, .ref q3, .ref q4, iv 0, .ref q5, iv 0, iv 0, .ref q6, .ref q7, .null, .null, iv 0, jv 0, .null, .null, .null, .null, .null, iv 0, .null, .null])), (q1, .inl (cy 2, 200, .inl (fun _ => Int32.ofInt 0))), (q2, .inl (cy 0, 124, .inl (fun _ => Int32.ofInt 0))), (q3, .inl (cy 0, 124, .inl (fun _ => Int32.ofInt 0))), (q4, .inl (cy 0, 744, .inl (fun _ => Int32.ofInt 0))), (q5, .inl (cy 0, 124, .inl (fun _ => Int32.ofInt 0))), (q6, .inl (cy 0, 4, .inl (fun _ => Int32.ofInt 0))), (q7, .inl (cy 3, 10, .inl (fun _ => Int32.ofInt 0))), (q8, .inl (cy 1, 40, .inr (.inl (fun _ => Int64.ofInt 0))))] H := hP
  have hD : va_D (va_A [(a0, .inr (8, bX8))] s.heap.size) [(a0, .inr (8, [iv 0, .ref q1, iv 0, .ref q2, .ref q3, .ref q4, iv 0, .ref q5, iv 0, iv 0, .ref q6, .ref q7, .null, .null, iv 0, jv 0, .null, .null, .null, .null, .null, iv 0, .null, .null])), (q1, .inl (cy 2, 200, .inl (fun _ => Int32.ofInt 0))), (q2, .inl (cy 0, 124, .inl (fun _ => Int32.ofInt 0))), (q3, .inl (cy 0, 124, .inl (fun _ => Int32.ofInt 0))), (q4, .inl (cy 0, 744, .inl (fun _ => Int32.ofInt 0))), (q5, .inl (cy 0, 124, .inl (fun _ => Int32.ofInt 0))), (q6, .inl (cy 0, 4, .inl (fun _ => Int32.ofInt 0))), (q7, .inl (cy 3, 10, .inl (fun _ => Int32.ofInt 0))), (q8, .inl (cy 1, 40, .inr (.inl (fun _ => Int64.ofInt 0))))] := hD
  refine Wputf F ff_X8_33 hK hP hD hS rfl rfl (Nat.le_of_ble_eq_true rfl) dX8_init_66 (fun H locs hP hD hS => ?_)
  have hP : va_P D vwCl [(a0, .inr (8, [iv 0, .ref q1, iv 0, .ref q2, .ref q3, .ref q4, iv 0, .ref q5, iv 0, iv 0, .ref q6, .ref q7, .ref q8, .null, iv 0, jv 0, .null, .null, .null, .null, .null, iv 0, .null, .null])), (q1, .inl (cy 2, 200, .inl (fun _ => Int32.ofInt 0))), (q2, .inl (cy 0, 124, .inl (fun _ => Int32.ofInt 0))), (q3, .inl (cy 0, 124, .inl (fun _ => Int32.ofInt 0))), (q4, .inl (cy 0, 744, .inl (fun _ => Int32.ofInt 0))), (q5, .inl (cy 0, 124, .inl (fun _ => Int32.ofInt 0))), (q6, .inl (cy 0, 4, .inl (fun _ => Int32.ofInt 0))), (q7, .inl (cy 3, 10, .inl (fun _ => Int32.ofInt 0))), (q8, .inl (cy 1, 40, .inr (.inl (fun _ => Int64.ofInt 0))))] H := hP
  have hD : va_D (va_A [(a0, .inr (8, bX8))] s.heap.size) [(a0, .inr (8, [iv 0, .ref q1, iv 0, .ref q2, .ref q3, .ref q4, iv 0, .ref q5, iv 0, iv 0, .ref q6, .ref q7, .ref q8, .null, iv 0, jv 0, .null, .null, .null, .null, .null, iv 0, .null, .null])), (q1, .inl (cy 2, 200, .inl (fun _ => Int32.ofInt 0))), (q2, .inl (cy 0, 124, .inl (fun _ => Int32.ofInt 0))), (q3, .inl (cy 0, 124, .inl (fun _ => Int32.ofInt 0))), (q4, .inl (cy 0, 744, .inl (fun _ => Int32.ofInt 0))), (q5, .inl (cy 0, 124, .inl (fun _ => Int32.ofInt 0))), (q6, .inl (cy 0, 4, .inl (fun _ => Int32.ofInt 0))), (q7, .inl (cy 3, 10, .inl (fun _ => Int32.ofInt 0))), (q8, .inl (cy 1, 40, .inr (.inl (fun _ => Int64.ofInt 0))))] := hD
  refine lv_aload_n hx hb dX8_init_69 rfl (lv_at hl 0 rfl) ?_
  refine lv_bipush hx hb dX8_init_70 (v := Int32.ofInt 10) (by decide) ?_
  refine Wnewa (atype := .int) (ty := .int) (Ly := mLy) (i := 0) (n := 10) (a0 := (10, .inl (fun _ => Int32.ofInt 0))) F ac_int rfl rfl hK hP hD hS hA (zI_int 10) (by decide) (by decide) (Nat.le_of_ble_eq_true rfl) (Nat.le_of_ble_eq_true rfl) dX8_init_72 (fun q9 H hP hD hS => ?_)
  have hP : va_P D vwCl [(a0, .inr (8, [iv 0, .ref q1, iv 0, .ref q2, .ref q3, .ref q4, iv 0, .ref q5, iv 0, iv 0, .ref q6, .ref q7, .ref q8, .null, iv 0, jv 0, .null, .null, .null, .null, .null, iv 0, .null, .null])), (q1, .inl (cy 2, 200, .inl (fun _ => Int32.ofInt 0))), (q2, .inl (cy 0, 124, .inl (fun _ => Int32.ofInt 0))), (q3, .inl (cy 0, 124, .inl (fun _ => Int32.ofInt 0))), (q4, .inl (cy 0, 744, .inl (fun _ => Int32.ofInt 0))), (q5, .inl (cy 0, 124, .inl (fun _ => Int32.ofInt 0))), (q6, .inl (cy 0, 4, .inl (fun _ => Int32.ofInt 0))), (q7, .inl (cy 3, 10, .inl (fun _ => Int32.ofInt 0))), (q8, .inl (cy 1, 40, .inr (.inl (fun _ => Int64.ofInt 0)))), (q9, .inl (cy 0, 10, .inl (fun _ => Int32.ofInt 0)))] H := hP
  have hD : va_D (va_A [(a0, .inr (8, bX8))] s.heap.size) [(a0, .inr (8, [iv 0, .ref q1, iv 0, .ref q2, .ref q3, .ref q4, iv 0, .ref q5, iv 0, iv 0, .ref q6, .ref q7, .ref q8, .null, iv 0, jv 0, .null, .null, .null, .null, .null, iv 0, .null, .null])), (q1, .inl (cy 2, 200, .inl (fun _ => Int32.ofInt 0))), (q2, .inl (cy 0, 124, .inl (fun _ => Int32.ofInt 0))), (q3, .inl (cy 0, 124, .inl (fun _ => Int32.ofInt 0))), (q4, .inl (cy 0, 744, .inl (fun _ => Int32.ofInt 0))), (q5, .inl (cy 0, 124, .inl (fun _ => Int32.ofInt 0))), (q6, .inl (cy 0, 4, .inl (fun _ => Int32.ofInt 0))), (q7, .inl (cy 3, 10, .inl (fun _ => Int32.ofInt 0))), (q8, .inl (cy 1, 40, .inr (.inl (fun _ => Int64.ofInt 0)))), (q9, .inl (cy 0, 10, .inl (fun _ => Int32.ofInt 0)))] := hD
  refine Wputf F ff_X8_37 hK hP hD hS rfl rfl (Nat.le_of_ble_eq_true rfl) dX8_init_74 (fun H locs hP hD hS => ?_)
  have hP : va_P D vwCl [(a0, .inr (8, [iv 0, .ref q1, iv 0, .ref q2, .ref q3, .ref q4, iv 0, .ref q5, iv 0, iv 0, .ref q6, .ref q7, .ref q8, .ref q9, iv 0, jv 0, .null, .null, .null, .null, .null, iv 0, .null, .null])), (q1, .inl (cy 2, 200, .inl (fun _ => Int32.ofInt 0))), (q2, .inl (cy 0, 124, .inl (fun _ => Int32.ofInt 0))), (q3, .inl (cy 0, 124, .inl (fun _ => Int32.ofInt 0))), (q4, .inl (cy 0, 744, .inl (fun _ => Int32.ofInt 0))), (q5, .inl (cy 0, 124, .inl (fun _ => Int32.ofInt 0))), (q6, .inl (cy 0, 4, .inl (fun _ => Int32.ofInt 0))), (q7, .inl (cy 3, 10, .inl (fun _ => Int32.ofInt 0))), (q8, .inl (cy 1, 40, .inr (.inl (fun _ => Int64.ofInt 0)))), (q9, .inl (cy 0, 10, .inl (fun _ => Int32.ofInt 0)))] H := hP
  have hD : va_D (va_A [(a0, .inr (8, bX8))] s.heap.size) [(a0, .inr (8, [iv 0, .ref q1, iv 0, .ref q2, .ref q3, .ref q4, iv 0, .ref q5, iv 0, iv 0, .ref q6, .ref q7, .ref q8, .ref q9, iv 0, jv 0, .null, .null, .null, .null, .null, iv 0, .null, .null])), (q1, .inl (cy 2, 200, .inl (fun _ => Int32.ofInt 0))), (q2, .inl (cy 0, 124, .inl (fun _ => Int32.ofInt 0))), (q3, .inl (cy 0, 124, .inl (fun _ => Int32.ofInt 0))), (q4, .inl (cy 0, 744, .inl (fun _ => Int32.ofInt 0))), (q5, .inl (cy 0, 124, .inl (fun _ => Int32.ofInt 0))), (q6, .inl (cy 0, 4, .inl (fun _ => Int32.ofInt 0))), (q7, .inl (cy 3, 10, .inl (fun _ => Int32.ofInt 0))), (q8, .inl (cy 1, 40, .inr (.inl (fun _ => Int64.ofInt 0)))), (q9, .inl (cy 0, 10, .inl (fun _ => Int32.ofInt 0)))] := hD
  refine lv_aload_n hx hb dX8_init_77 rfl (lv_at hl 0 rfl) ?_
  refine lv_bipush hx hb dX8_init_78 (v := Int32.ofInt 30) (by decide) ?_
  refine Wnewa (atype := .long) (ty := .long) (Ly := mLy) (i := 1) (n := 30) (a0 := (30, .inr (.inl (fun _ => Int64.ofInt 0)))) F ac_long rfl rfl hK hP hD hS hA (zL 30) (by decide) (by decide) (Nat.le_of_ble_eq_true rfl) (Nat.le_of_ble_eq_true rfl) dX8_init_80 (fun q10 H hP hD hS => ?_)
  have hP : va_P D vwCl [(a0, .inr (8, [iv 0, .ref q1, iv 0, .ref q2, .ref q3, .ref q4, iv 0, .ref q5, iv 0, iv 0, .ref q6, .ref q7, .ref q8, .ref q9, iv 0, jv 0, .null, .null, .null, .null, .null, iv 0, .null, .null])), (q1, .inl (cy 2, 200, .inl (fun _ => Int32.ofInt 0))), (q2, .inl (cy 0, 124, .inl (fun _ => Int32.ofInt 0))), (q3, .inl (cy 0, 124, .inl (fun _ => Int32.ofInt 0))), (q4, .inl (cy 0, 744, .inl (fun _ => Int32.ofInt 0))), (q5, .inl (cy 0, 124, .inl (fun _ => Int32.ofInt 0))), (q6, .inl (cy 0, 4, .inl (fun _ => Int32.ofInt 0))), (q7, .inl (cy 3, 10, .inl (fun _ => Int32.ofInt 0))), (q8, .inl (cy 1, 40, .inr (.inl (fun _ => Int64.ofInt 0)))), (q9, .inl (cy 0, 10, .inl (fun _ => Int32.ofInt 0))), (q10, .inl (cy 1, 30, .inr (.inl (fun _ => Int64.ofInt 0))))] H := hP
  have hD : va_D (va_A [(a0, .inr (8, bX8))] s.heap.size) [(a0, .inr (8, [iv 0, .ref q1, iv 0, .ref q2, .ref q3, .ref q4, iv 0, .ref q5, iv 0, iv 0, .ref q6, .ref q7, .ref q8, .ref q9, iv 0, jv 0, .null, .null, .null, .null, .null, iv 0, .null, .null])), (q1, .inl (cy 2, 200, .inl (fun _ => Int32.ofInt 0))), (q2, .inl (cy 0, 124, .inl (fun _ => Int32.ofInt 0))), (q3, .inl (cy 0, 124, .inl (fun _ => Int32.ofInt 0))), (q4, .inl (cy 0, 744, .inl (fun _ => Int32.ofInt 0))), (q5, .inl (cy 0, 124, .inl (fun _ => Int32.ofInt 0))), (q6, .inl (cy 0, 4, .inl (fun _ => Int32.ofInt 0))), (q7, .inl (cy 3, 10, .inl (fun _ => Int32.ofInt 0))), (q8, .inl (cy 1, 40, .inr (.inl (fun _ => Int64.ofInt 0)))), (q9, .inl (cy 0, 10, .inl (fun _ => Int32.ofInt 0))), (q10, .inl (cy 1, 30, .inr (.inl (fun _ => Int64.ofInt 0))))] := hD
  refine Wputf F ff_X8_40 hK hP hD hS rfl rfl (Nat.le_of_ble_eq_true rfl) dX8_init_82 (fun H locs hP hD hS => ?_)
  have hP : va_P D vwCl [(a0, .inr (8, [iv 0, .ref q1, iv 0, .ref q2, .ref q3, .ref q4, iv 0, .ref q5, iv 0, iv 0, .ref q6, .ref q7, .ref q8, .ref q9, iv 0, jv 0, .ref q10, .null, .null, .null, .null, iv 0, .null, .null])), (q1, .inl (cy 2, 200, .inl (fun _ => Int32.ofInt 0))), (q2, .inl (cy 0, 124, .inl (fun _ => Int32.ofInt 0))), (q3, .inl (cy 0, 124, .inl (fun _ => Int32.ofInt 0))), (q4, .inl (cy 0, 744, .inl (fun _ => Int32.ofInt 0))), (q5, .inl (cy 0, 124, .inl (fun _ => Int32.ofInt 0))), (q6, .inl (cy 0, 4, .inl (fun _ => Int32.ofInt 0))), (q7, .inl (cy 3, 10, .inl (fun _ => Int32.ofInt 0))), (q8, .inl (cy 1, 40, .inr (.inl (fun _ => Int64.ofInt 0)))), (q9, .inl (cy 0, 10, .inl (fun _ => Int32.ofInt 0))), (q10, .inl (cy 1, 30, .inr (.inl (fun _ => Int64.ofInt 0))))] H := hP
  have hD : va_D (va_A [(a0, .inr (8, bX8))] s.heap.size) [(a0, .inr (8, [iv 0, .ref q1, iv 0, .ref q2, .ref q3, .ref q4, iv 0, .ref q5, iv 0, iv 0, .ref q6, .ref q7, .ref q8, .ref q9, iv 0, jv 0, .ref q10, .null, .null, .null, .null, iv 0, .null, .null])), (q1, .inl (cy 2, 200, .inl (fun _ => Int32.ofInt 0))), (q2, .inl (cy 0, 124, .inl (fun _ => Int32.ofInt 0))), (q3, .inl (cy 0, 124, .inl (fun _ => Int32.ofInt 0))), (q4, .inl (cy 0, 744, .inl (fun _ => Int32.ofInt 0))), (q5, .inl (cy 0, 124, .inl (fun _ => Int32.ofInt 0))), (q6, .inl (cy 0, 4, .inl (fun _ => Int32.ofInt 0))), (q7, .inl (cy 3, 10, .inl (fun _ => Int32.ofInt 0))), (q8, .inl (cy 1, 40, .inr (.inl (fun _ => Int64.ofInt 0)))), (q9, .inl (cy 0, 10, .inl (fun _ => Int32.ofInt 0))), (q10, .inl (cy 1, 30, .inr (.inl (fun _ => Int64.ofInt 0))))] := hD
  refine lv_aload_n hx hb dX8_init_85 rfl (lv_at hl 0 rfl) ?_
  refine lv_bipush hx hb dX8_init_86 (v := Int32.ofInt 30) (by decide) ?_
  refine Wnewa (atype := .int) (ty := .int) (Ly := mLy) (i := 0) (n := 30) (a0 := (30, .inl (fun _ => Int32.ofInt 0))) F ac_int rfl rfl hK hP hD hS hA (zI_int 30) (by decide) (by decide) (Nat.le_of_ble_eq_true rfl) (Nat.le_of_ble_eq_true rfl) dX8_init_88 (fun q11 H hP hD hS => ?_)
  have hP : va_P D vwCl [(a0, .inr (8, [iv 0, .ref q1, iv 0, .ref q2, .ref q3, .ref q4, iv 0, .ref q5, iv 0, iv 0, .ref q6, .ref q7, .ref q8, .ref q9, iv 0, jv 0, .ref q10, .null, .null, .null, .null, iv 0, .null, .null])), (q1, .inl (cy 2, 200, .inl (fun _ => Int32.ofInt 0))), (q2, .inl (cy 0, 124, .inl (fun _ => Int32.ofInt 0))), (q3, .inl (cy 0, 124, .inl (fun _ => Int32.ofInt 0))), (q4, .inl (cy 0, 744, .inl (fun _ => Int32.ofInt 0))), (q5, .inl (cy 0, 124, .inl (fun _ => Int32.ofInt 0))), (q6, .inl (cy 0, 4, .inl (fun _ => Int32.ofInt 0))), (q7, .inl (cy 3, 10, .inl (fun _ => Int32.ofInt 0))), (q8, .inl (cy 1, 40, .inr (.inl (fun _ => Int64.ofInt 0)))), (q9, .inl (cy 0, 10, .inl (fun _ => Int32.ofInt 0))), (q10, .inl (cy 1, 30, .inr (.inl (fun _ => Int64.ofInt 0)))), (q11, .inl (cy 0, 30, .inl (fun _ => Int32.ofInt 0)))] H := hP
  have hD : va_D (va_A [(a0, .inr (8, bX8))] s.heap.size) [(a0, .inr (8, [iv 0, .ref q1, iv 0, .ref q2, .ref q3, .ref q4, iv 0, .ref q5, iv 0, iv 0, .ref q6, .ref q7, .ref q8, .ref q9, iv 0, jv 0, .ref q10, .null, .null, .null, .null, iv 0, .null, .null])), (q1, .inl (cy 2, 200, .inl (fun _ => Int32.ofInt 0))), (q2, .inl (cy 0, 124, .inl (fun _ => Int32.ofInt 0))), (q3, .inl (cy 0, 124, .inl (fun _ => Int32.ofInt 0))), (q4, .inl (cy 0, 744, .inl (fun _ => Int32.ofInt 0))), (q5, .inl (cy 0, 124, .inl (fun _ => Int32.ofInt 0))), (q6, .inl (cy 0, 4, .inl (fun _ => Int32.ofInt 0))), (q7, .inl (cy 3, 10, .inl (fun _ => Int32.ofInt 0))), (q8, .inl (cy 1, 40, .inr (.inl (fun _ => Int64.ofInt 0)))), (q9, .inl (cy 0, 10, .inl (fun _ => Int32.ofInt 0))), (q10, .inl (cy 1, 30, .inr (.inl (fun _ => Int64.ofInt 0)))), (q11, .inl (cy 0, 30, .inl (fun _ => Int32.ofInt 0)))] := hD
  refine Wputf F ff_X8_43 hK hP hD hS rfl rfl (Nat.le_of_ble_eq_true rfl) dX8_init_90 (fun H locs hP hD hS => ?_)
  have hP : va_P D vwCl [(a0, .inr (8, [iv 0, .ref q1, iv 0, .ref q2, .ref q3, .ref q4, iv 0, .ref q5, iv 0, iv 0, .ref q6, .ref q7, .ref q8, .ref q9, iv 0, jv 0, .ref q10, .ref q11, .null, .null, .null, iv 0, .null, .null])), (q1, .inl (cy 2, 200, .inl (fun _ => Int32.ofInt 0))), (q2, .inl (cy 0, 124, .inl (fun _ => Int32.ofInt 0))), (q3, .inl (cy 0, 124, .inl (fun _ => Int32.ofInt 0))), (q4, .inl (cy 0, 744, .inl (fun _ => Int32.ofInt 0))), (q5, .inl (cy 0, 124, .inl (fun _ => Int32.ofInt 0))), (q6, .inl (cy 0, 4, .inl (fun _ => Int32.ofInt 0))), (q7, .inl (cy 3, 10, .inl (fun _ => Int32.ofInt 0))), (q8, .inl (cy 1, 40, .inr (.inl (fun _ => Int64.ofInt 0)))), (q9, .inl (cy 0, 10, .inl (fun _ => Int32.ofInt 0))), (q10, .inl (cy 1, 30, .inr (.inl (fun _ => Int64.ofInt 0)))), (q11, .inl (cy 0, 30, .inl (fun _ => Int32.ofInt 0)))] H := hP
  have hD : va_D (va_A [(a0, .inr (8, bX8))] s.heap.size) [(a0, .inr (8, [iv 0, .ref q1, iv 0, .ref q2, .ref q3, .ref q4, iv 0, .ref q5, iv 0, iv 0, .ref q6, .ref q7, .ref q8, .ref q9, iv 0, jv 0, .ref q10, .ref q11, .null, .null, .null, iv 0, .null, .null])), (q1, .inl (cy 2, 200, .inl (fun _ => Int32.ofInt 0))), (q2, .inl (cy 0, 124, .inl (fun _ => Int32.ofInt 0))), (q3, .inl (cy 0, 124, .inl (fun _ => Int32.ofInt 0))), (q4, .inl (cy 0, 744, .inl (fun _ => Int32.ofInt 0))), (q5, .inl (cy 0, 124, .inl (fun _ => Int32.ofInt 0))), (q6, .inl (cy 0, 4, .inl (fun _ => Int32.ofInt 0))), (q7, .inl (cy 3, 10, .inl (fun _ => Int32.ofInt 0))), (q8, .inl (cy 1, 40, .inr (.inl (fun _ => Int64.ofInt 0)))), (q9, .inl (cy 0, 10, .inl (fun _ => Int32.ofInt 0))), (q10, .inl (cy 1, 30, .inr (.inl (fun _ => Int64.ofInt 0)))), (q11, .inl (cy 0, 30, .inl (fun _ => Int32.ofInt 0)))] := hD
  refine lv_aload_n hx hb dX8_init_93 rfl (lv_at hl 0 rfl) ?_
  refine lv_bipush hx hb dX8_init_94 (v := Int32.ofInt 14) (by decide) ?_
  refine Wnewa (atype := .int) (ty := .int) (Ly := mLy) (i := 0) (n := 14) (a0 := (14, .inl (fun _ => Int32.ofInt 0))) F ac_int rfl rfl hK hP hD hS hA (zI_int 14) (by decide) (by decide) (Nat.le_of_ble_eq_true rfl) (Nat.le_of_ble_eq_true rfl) dX8_init_96 (fun q12 H hP hD hS => ?_)
  have hP : va_P D vwCl [(a0, .inr (8, [iv 0, .ref q1, iv 0, .ref q2, .ref q3, .ref q4, iv 0, .ref q5, iv 0, iv 0, .ref q6, .ref q7, .ref q8, .ref q9, iv 0, jv 0, .ref q10, .ref q11, .null, .null, .null, iv 0, .null, .null])), (q1, .inl (cy 2, 200, .inl (fun _ => Int32.ofInt 0))), (q2, .inl (cy 0, 124, .inl (fun _ => Int32.ofInt 0))), (q3, .inl (cy 0, 124, .inl (fun _ => Int32.ofInt 0))), (q4, .inl (cy 0, 744, .inl (fun _ => Int32.ofInt 0))), (q5, .inl (cy 0, 124, .inl (fun _ => Int32.ofInt 0))), (q6, .inl (cy 0, 4, .inl (fun _ => Int32.ofInt 0))), (q7, .inl (cy 3, 10, .inl (fun _ => Int32.ofInt 0))), (q8, .inl (cy 1, 40, .inr (.inl (fun _ => Int64.ofInt 0)))), (q9, .inl (cy 0, 10, .inl (fun _ => Int32.ofInt 0))), (q10, .inl (cy 1, 30, .inr (.inl (fun _ => Int64.ofInt 0)))), (q11, .inl (cy 0, 30, .inl (fun _ => Int32.ofInt 0))), (q12, .inl (cy 0, 14, .inl (fun _ => Int32.ofInt 0)))] H := hP
  have hD : va_D (va_A [(a0, .inr (8, bX8))] s.heap.size) [(a0, .inr (8, [iv 0, .ref q1, iv 0, .ref q2, .ref q3, .ref q4, iv 0, .ref q5, iv 0, iv 0, .ref q6, .ref q7, .ref q8, .ref q9, iv 0, jv 0, .ref q10, .ref q11, .null, .null, .null, iv 0, .null, .null])), (q1, .inl (cy 2, 200, .inl (fun _ => Int32.ofInt 0))), (q2, .inl (cy 0, 124, .inl (fun _ => Int32.ofInt 0))), (q3, .inl (cy 0, 124, .inl (fun _ => Int32.ofInt 0))), (q4, .inl (cy 0, 744, .inl (fun _ => Int32.ofInt 0))), (q5, .inl (cy 0, 124, .inl (fun _ => Int32.ofInt 0))), (q6, .inl (cy 0, 4, .inl (fun _ => Int32.ofInt 0))), (q7, .inl (cy 3, 10, .inl (fun _ => Int32.ofInt 0))), (q8, .inl (cy 1, 40, .inr (.inl (fun _ => Int64.ofInt 0)))), (q9, .inl (cy 0, 10, .inl (fun _ => Int32.ofInt 0))), (q10, .inl (cy 1, 30, .inr (.inl (fun _ => Int64.ofInt 0)))), (q11, .inl (cy 0, 30, .inl (fun _ => Int32.ofInt 0))), (q12, .inl (cy 0, 14, .inl (fun _ => Int32.ofInt 0)))] := hD
  refine Wputf F ff_X8_46 hK hP hD hS rfl rfl (Nat.le_of_ble_eq_true rfl) dX8_init_98 (fun H locs hP hD hS => ?_)
  have hP : va_P D vwCl [(a0, .inr (8, [iv 0, .ref q1, iv 0, .ref q2, .ref q3, .ref q4, iv 0, .ref q5, iv 0, iv 0, .ref q6, .ref q7, .ref q8, .ref q9, iv 0, jv 0, .ref q10, .ref q11, .ref q12, .null, .null, iv 0, .null, .null])), (q1, .inl (cy 2, 200, .inl (fun _ => Int32.ofInt 0))), (q2, .inl (cy 0, 124, .inl (fun _ => Int32.ofInt 0))), (q3, .inl (cy 0, 124, .inl (fun _ => Int32.ofInt 0))), (q4, .inl (cy 0, 744, .inl (fun _ => Int32.ofInt 0))), (q5, .inl (cy 0, 124, .inl (fun _ => Int32.ofInt 0))), (q6, .inl (cy 0, 4, .inl (fun _ => Int32.ofInt 0))), (q7, .inl (cy 3, 10, .inl (fun _ => Int32.ofInt 0))), (q8, .inl (cy 1, 40, .inr (.inl (fun _ => Int64.ofInt 0)))), (q9, .inl (cy 0, 10, .inl (fun _ => Int32.ofInt 0))), (q10, .inl (cy 1, 30, .inr (.inl (fun _ => Int64.ofInt 0)))), (q11, .inl (cy 0, 30, .inl (fun _ => Int32.ofInt 0))), (q12, .inl (cy 0, 14, .inl (fun _ => Int32.ofInt 0)))] H := hP
  have hD : va_D (va_A [(a0, .inr (8, bX8))] s.heap.size) [(a0, .inr (8, [iv 0, .ref q1, iv 0, .ref q2, .ref q3, .ref q4, iv 0, .ref q5, iv 0, iv 0, .ref q6, .ref q7, .ref q8, .ref q9, iv 0, jv 0, .ref q10, .ref q11, .ref q12, .null, .null, iv 0, .null, .null])), (q1, .inl (cy 2, 200, .inl (fun _ => Int32.ofInt 0))), (q2, .inl (cy 0, 124, .inl (fun _ => Int32.ofInt 0))), (q3, .inl (cy 0, 124, .inl (fun _ => Int32.ofInt 0))), (q4, .inl (cy 0, 744, .inl (fun _ => Int32.ofInt 0))), (q5, .inl (cy 0, 124, .inl (fun _ => Int32.ofInt 0))), (q6, .inl (cy 0, 4, .inl (fun _ => Int32.ofInt 0))), (q7, .inl (cy 3, 10, .inl (fun _ => Int32.ofInt 0))), (q8, .inl (cy 1, 40, .inr (.inl (fun _ => Int64.ofInt 0)))), (q9, .inl (cy 0, 10, .inl (fun _ => Int32.ofInt 0))), (q10, .inl (cy 1, 30, .inr (.inl (fun _ => Int64.ofInt 0)))), (q11, .inl (cy 0, 30, .inl (fun _ => Int32.ofInt 0))), (q12, .inl (cy 0, 14, .inl (fun _ => Int32.ofInt 0)))] := hD
  refine lv_aload_n hx hb dX8_init_101 rfl (lv_at hl 0 rfl) ?_
  refine lv_bipush hx hb dX8_init_102 (v := Int32.ofInt 14) (by decide) ?_
  refine Wnewa (atype := .int) (ty := .int) (Ly := mLy) (i := 0) (n := 14) (a0 := (14, .inl (fun _ => Int32.ofInt 0))) F ac_int rfl rfl hK hP hD hS hA (zI_int 14) (by decide) (by decide) (Nat.le_of_ble_eq_true rfl) (Nat.le_of_ble_eq_true rfl) dX8_init_104 (fun q13 H hP hD hS => ?_)
  have hP : va_P D vwCl [(a0, .inr (8, [iv 0, .ref q1, iv 0, .ref q2, .ref q3, .ref q4, iv 0, .ref q5, iv 0, iv 0, .ref q6, .ref q7, .ref q8, .ref q9, iv 0, jv 0, .ref q10, .ref q11, .ref q12, .null, .null, iv 0, .null, .null])), (q1, .inl (cy 2, 200, .inl (fun _ => Int32.ofInt 0))), (q2, .inl (cy 0, 124, .inl (fun _ => Int32.ofInt 0))), (q3, .inl (cy 0, 124, .inl (fun _ => Int32.ofInt 0))), (q4, .inl (cy 0, 744, .inl (fun _ => Int32.ofInt 0))), (q5, .inl (cy 0, 124, .inl (fun _ => Int32.ofInt 0))), (q6, .inl (cy 0, 4, .inl (fun _ => Int32.ofInt 0))), (q7, .inl (cy 3, 10, .inl (fun _ => Int32.ofInt 0))), (q8, .inl (cy 1, 40, .inr (.inl (fun _ => Int64.ofInt 0)))), (q9, .inl (cy 0, 10, .inl (fun _ => Int32.ofInt 0))), (q10, .inl (cy 1, 30, .inr (.inl (fun _ => Int64.ofInt 0)))), (q11, .inl (cy 0, 30, .inl (fun _ => Int32.ofInt 0))), (q12, .inl (cy 0, 14, .inl (fun _ => Int32.ofInt 0))), (q13, .inl (cy 0, 14, .inl (fun _ => Int32.ofInt 0)))] H := hP
  have hD : va_D (va_A [(a0, .inr (8, bX8))] s.heap.size) [(a0, .inr (8, [iv 0, .ref q1, iv 0, .ref q2, .ref q3, .ref q4, iv 0, .ref q5, iv 0, iv 0, .ref q6, .ref q7, .ref q8, .ref q9, iv 0, jv 0, .ref q10, .ref q11, .ref q12, .null, .null, iv 0, .null, .null])), (q1, .inl (cy 2, 200, .inl (fun _ => Int32.ofInt 0))), (q2, .inl (cy 0, 124, .inl (fun _ => Int32.ofInt 0))), (q3, .inl (cy 0, 124, .inl (fun _ => Int32.ofInt 0))), (q4, .inl (cy 0, 744, .inl (fun _ => Int32.ofInt 0))), (q5, .inl (cy 0, 124, .inl (fun _ => Int32.ofInt 0))), (q6, .inl (cy 0, 4, .inl (fun _ => Int32.ofInt 0))), (q7, .inl (cy 3, 10, .inl (fun _ => Int32.ofInt 0))), (q8, .inl (cy 1, 40, .inr (.inl (fun _ => Int64.ofInt 0)))), (q9, .inl (cy 0, 10, .inl (fun _ => Int32.ofInt 0))), (q10, .inl (cy 1, 30, .inr (.inl (fun _ => Int64.ofInt 0)))), (q11, .inl (cy 0, 30, .inl (fun _ => Int32.ofInt 0))), (q12, .inl (cy 0, 14, .inl (fun _ => Int32.ofInt 0))), (q13, .inl (cy 0, 14, .inl (fun _ => Int32.ofInt 0)))] := hD
  refine Wputf F ff_X8_49 hK hP hD hS rfl rfl (Nat.le_of_ble_eq_true rfl) dX8_init_106 (fun H locs hP hD hS => ?_)
  have hP : va_P D vwCl [(a0, .inr (8, [iv 0, .ref q1, iv 0, .ref q2, .ref q3, .ref q4, iv 0, .ref q5, iv 0, iv 0, .ref q6, .ref q7, .ref q8, .ref q9, iv 0, jv 0, .ref q10, .ref q11, .ref q12, .ref q13, .null, iv 0, .null, .null])), (q1, .inl (cy 2, 200, .inl (fun _ => Int32.ofInt 0))), (q2, .inl (cy 0, 124, .inl (fun _ => Int32.ofInt 0))), (q3, .inl (cy 0, 124, .inl (fun _ => Int32.ofInt 0))), (q4, .inl (cy 0, 744, .inl (fun _ => Int32.ofInt 0))), (q5, .inl (cy 0, 124, .inl (fun _ => Int32.ofInt 0))), (q6, .inl (cy 0, 4, .inl (fun _ => Int32.ofInt 0))), (q7, .inl (cy 3, 10, .inl (fun _ => Int32.ofInt 0))), (q8, .inl (cy 1, 40, .inr (.inl (fun _ => Int64.ofInt 0)))), (q9, .inl (cy 0, 10, .inl (fun _ => Int32.ofInt 0))), (q10, .inl (cy 1, 30, .inr (.inl (fun _ => Int64.ofInt 0)))), (q11, .inl (cy 0, 30, .inl (fun _ => Int32.ofInt 0))), (q12, .inl (cy 0, 14, .inl (fun _ => Int32.ofInt 0))), (q13, .inl (cy 0, 14, .inl (fun _ => Int32.ofInt 0)))] H := hP
  have hD : va_D (va_A [(a0, .inr (8, bX8))] s.heap.size) [(a0, .inr (8, [iv 0, .ref q1, iv 0, .ref q2, .ref q3, .ref q4, iv 0, .ref q5, iv 0, iv 0, .ref q6, .ref q7, .ref q8, .ref q9, iv 0, jv 0, .ref q10, .ref q11, .ref q12, .ref q13, .null, iv 0, .null, .null])), (q1, .inl (cy 2, 200, .inl (fun _ => Int32.ofInt 0))), (q2, .inl (cy 0, 124, .inl (fun _ => Int32.ofInt 0))), (q3, .inl (cy 0, 124, .inl (fun _ => Int32.ofInt 0))), (q4, .inl (cy 0, 744, .inl (fun _ => Int32.ofInt 0))), (q5, .inl (cy 0, 124, .inl (fun _ => Int32.ofInt 0))), (q6, .inl (cy 0, 4, .inl (fun _ => Int32.ofInt 0))), (q7, .inl (cy 3, 10, .inl (fun _ => Int32.ofInt 0))), (q8, .inl (cy 1, 40, .inr (.inl (fun _ => Int64.ofInt 0)))), (q9, .inl (cy 0, 10, .inl (fun _ => Int32.ofInt 0))), (q10, .inl (cy 1, 30, .inr (.inl (fun _ => Int64.ofInt 0)))), (q11, .inl (cy 0, 30, .inl (fun _ => Int32.ofInt 0))), (q12, .inl (cy 0, 14, .inl (fun _ => Int32.ofInt 0))), (q13, .inl (cy 0, 14, .inl (fun _ => Int32.ofInt 0)))] := hD
  refine lv_aload_n hx hb dX8_init_109 rfl (lv_at hl 0 rfl) ?_
  refine lv_bipush hx hb dX8_init_110 (v := Int32.ofInt 14) (by decide) ?_
  refine Wnewa (atype := .int) (ty := .int) (Ly := mLy) (i := 0) (n := 14) (a0 := (14, .inl (fun _ => Int32.ofInt 0))) F ac_int rfl rfl hK hP hD hS hA (zI_int 14) (by decide) (by decide) (Nat.le_of_ble_eq_true rfl) (Nat.le_of_ble_eq_true rfl) dX8_init_112 (fun q14 H hP hD hS => ?_)
  have hP : va_P D vwCl [(a0, .inr (8, [iv 0, .ref q1, iv 0, .ref q2, .ref q3, .ref q4, iv 0, .ref q5, iv 0, iv 0, .ref q6, .ref q7, .ref q8, .ref q9, iv 0, jv 0, .ref q10, .ref q11, .ref q12, .ref q13, .null, iv 0, .null, .null])), (q1, .inl (cy 2, 200, .inl (fun _ => Int32.ofInt 0))), (q2, .inl (cy 0, 124, .inl (fun _ => Int32.ofInt 0))), (q3, .inl (cy 0, 124, .inl (fun _ => Int32.ofInt 0))), (q4, .inl (cy 0, 744, .inl (fun _ => Int32.ofInt 0))), (q5, .inl (cy 0, 124, .inl (fun _ => Int32.ofInt 0))), (q6, .inl (cy 0, 4, .inl (fun _ => Int32.ofInt 0))), (q7, .inl (cy 3, 10, .inl (fun _ => Int32.ofInt 0))), (q8, .inl (cy 1, 40, .inr (.inl (fun _ => Int64.ofInt 0)))), (q9, .inl (cy 0, 10, .inl (fun _ => Int32.ofInt 0))), (q10, .inl (cy 1, 30, .inr (.inl (fun _ => Int64.ofInt 0)))), (q11, .inl (cy 0, 30, .inl (fun _ => Int32.ofInt 0))), (q12, .inl (cy 0, 14, .inl (fun _ => Int32.ofInt 0))), (q13, .inl (cy 0, 14, .inl (fun _ => Int32.ofInt 0))), (q14, .inl (cy 0, 14, .inl (fun _ => Int32.ofInt 0)))] H := hP
  have hD : va_D (va_A [(a0, .inr (8, bX8))] s.heap.size) [(a0, .inr (8, [iv 0, .ref q1, iv 0, .ref q2, .ref q3, .ref q4, iv 0, .ref q5, iv 0, iv 0, .ref q6, .ref q7, .ref q8, .ref q9, iv 0, jv 0, .ref q10, .ref q11, .ref q12, .ref q13, .null, iv 0, .null, .null])), (q1, .inl (cy 2, 200, .inl (fun _ => Int32.ofInt 0))), (q2, .inl (cy 0, 124, .inl (fun _ => Int32.ofInt 0))), (q3, .inl (cy 0, 124, .inl (fun _ => Int32.ofInt 0))), (q4, .inl (cy 0, 744, .inl (fun _ => Int32.ofInt 0))), (q5, .inl (cy 0, 124, .inl (fun _ => Int32.ofInt 0))), (q6, .inl (cy 0, 4, .inl (fun _ => Int32.ofInt 0))), (q7, .inl (cy 3, 10, .inl (fun _ => Int32.ofInt 0))), (q8, .inl (cy 1, 40, .inr (.inl (fun _ => Int64.ofInt 0)))), (q9, .inl (cy 0, 10, .inl (fun _ => Int32.ofInt 0))), (q10, .inl (cy 1, 30, .inr (.inl (fun _ => Int64.ofInt 0)))), (q11, .inl (cy 0, 30, .inl (fun _ => Int32.ofInt 0))), (q12, .inl (cy 0, 14, .inl (fun _ => Int32.ofInt 0))), (q13, .inl (cy 0, 14, .inl (fun _ => Int32.ofInt 0))), (q14, .inl (cy 0, 14, .inl (fun _ => Int32.ofInt 0)))] := hD
  refine Wputf F ff_X8_52 hK hP hD hS rfl rfl (Nat.le_of_ble_eq_true rfl) dX8_init_114 (fun H locs hP hD hS => ?_)
  have hP : va_P D vwCl [(a0, .inr (8, [iv 0, .ref q1, iv 0, .ref q2, .ref q3, .ref q4, iv 0, .ref q5, iv 0, iv 0, .ref q6, .ref q7, .ref q8, .ref q9, iv 0, jv 0, .ref q10, .ref q11, .ref q12, .ref q13, .ref q14, iv 0, .null, .null])), (q1, .inl (cy 2, 200, .inl (fun _ => Int32.ofInt 0))), (q2, .inl (cy 0, 124, .inl (fun _ => Int32.ofInt 0))), (q3, .inl (cy 0, 124, .inl (fun _ => Int32.ofInt 0))), (q4, .inl (cy 0, 744, .inl (fun _ => Int32.ofInt 0))), (q5, .inl (cy 0, 124, .inl (fun _ => Int32.ofInt 0))), (q6, .inl (cy 0, 4, .inl (fun _ => Int32.ofInt 0))), (q7, .inl (cy 3, 10, .inl (fun _ => Int32.ofInt 0))), (q8, .inl (cy 1, 40, .inr (.inl (fun _ => Int64.ofInt 0)))), (q9, .inl (cy 0, 10, .inl (fun _ => Int32.ofInt 0))), (q10, .inl (cy 1, 30, .inr (.inl (fun _ => Int64.ofInt 0)))), (q11, .inl (cy 0, 30, .inl (fun _ => Int32.ofInt 0))), (q12, .inl (cy 0, 14, .inl (fun _ => Int32.ofInt 0))), (q13, .inl (cy 0, 14, .inl (fun _ => Int32.ofInt 0))), (q14, .inl (cy 0, 14, .inl (fun _ => Int32.ofInt 0)))] H := hP
  have hD : va_D (va_A [(a0, .inr (8, bX8))] s.heap.size) [(a0, .inr (8, [iv 0, .ref q1, iv 0, .ref q2, .ref q3, .ref q4, iv 0, .ref q5, iv 0, iv 0, .ref q6, .ref q7, .ref q8, .ref q9, iv 0, jv 0, .ref q10, .ref q11, .ref q12, .ref q13, .ref q14, iv 0, .null, .null])), (q1, .inl (cy 2, 200, .inl (fun _ => Int32.ofInt 0))), (q2, .inl (cy 0, 124, .inl (fun _ => Int32.ofInt 0))), (q3, .inl (cy 0, 124, .inl (fun _ => Int32.ofInt 0))), (q4, .inl (cy 0, 744, .inl (fun _ => Int32.ofInt 0))), (q5, .inl (cy 0, 124, .inl (fun _ => Int32.ofInt 0))), (q6, .inl (cy 0, 4, .inl (fun _ => Int32.ofInt 0))), (q7, .inl (cy 3, 10, .inl (fun _ => Int32.ofInt 0))), (q8, .inl (cy 1, 40, .inr (.inl (fun _ => Int64.ofInt 0)))), (q9, .inl (cy 0, 10, .inl (fun _ => Int32.ofInt 0))), (q10, .inl (cy 1, 30, .inr (.inl (fun _ => Int64.ofInt 0)))), (q11, .inl (cy 0, 30, .inl (fun _ => Int32.ofInt 0))), (q12, .inl (cy 0, 14, .inl (fun _ => Int32.ofInt 0))), (q13, .inl (cy 0, 14, .inl (fun _ => Int32.ofInt 0))), (q14, .inl (cy 0, 14, .inl (fun _ => Int32.ofInt 0)))] := hD
  refine lv_aload_n hx hb dX8_init_117 rfl (lv_at hl 0 rfl) ?_
  refine lv_sipush hx hb dX8_init_118 (v := Int32.ofInt 16384) (by decide) ?_
  refine Wnewa (atype := .int) (ty := .int) (Ly := mLy) (i := 0) (n := 16384) (a0 := (16384, .inl (fun _ => Int32.ofInt 0))) F ac_int rfl rfl hK hP hD hS hA (zI_int 16384) (by decide) (by decide) (Nat.le_of_ble_eq_true rfl) (Nat.le_of_ble_eq_true rfl) dX8_init_121 (fun q15 H hP hD hS => ?_)
  have hP : va_P D vwCl [(a0, .inr (8, [iv 0, .ref q1, iv 0, .ref q2, .ref q3, .ref q4, iv 0, .ref q5, iv 0, iv 0, .ref q6, .ref q7, .ref q8, .ref q9, iv 0, jv 0, .ref q10, .ref q11, .ref q12, .ref q13, .ref q14, iv 0, .null, .null])), (q1, .inl (cy 2, 200, .inl (fun _ => Int32.ofInt 0))), (q2, .inl (cy 0, 124, .inl (fun _ => Int32.ofInt 0))), (q3, .inl (cy 0, 124, .inl (fun _ => Int32.ofInt 0))), (q4, .inl (cy 0, 744, .inl (fun _ => Int32.ofInt 0))), (q5, .inl (cy 0, 124, .inl (fun _ => Int32.ofInt 0))), (q6, .inl (cy 0, 4, .inl (fun _ => Int32.ofInt 0))), (q7, .inl (cy 3, 10, .inl (fun _ => Int32.ofInt 0))), (q8, .inl (cy 1, 40, .inr (.inl (fun _ => Int64.ofInt 0)))), (q9, .inl (cy 0, 10, .inl (fun _ => Int32.ofInt 0))), (q10, .inl (cy 1, 30, .inr (.inl (fun _ => Int64.ofInt 0)))), (q11, .inl (cy 0, 30, .inl (fun _ => Int32.ofInt 0))), (q12, .inl (cy 0, 14, .inl (fun _ => Int32.ofInt 0))), (q13, .inl (cy 0, 14, .inl (fun _ => Int32.ofInt 0))), (q14, .inl (cy 0, 14, .inl (fun _ => Int32.ofInt 0))), (q15, .inl (cy 0, 16384, .inl (fun _ => Int32.ofInt 0)))] H := hP
  have hD : va_D (va_A [(a0, .inr (8, bX8))] s.heap.size) [(a0, .inr (8, [iv 0, .ref q1, iv 0, .ref q2, .ref q3, .ref q4, iv 0, .ref q5, iv 0, iv 0, .ref q6, .ref q7, .ref q8, .ref q9, iv 0, jv 0, .ref q10, .ref q11, .ref q12, .ref q13, .ref q14, iv 0, .null, .null])), (q1, .inl (cy 2, 200, .inl (fun _ => Int32.ofInt 0))), (q2, .inl (cy 0, 124, .inl (fun _ => Int32.ofInt 0))), (q3, .inl (cy 0, 124, .inl (fun _ => Int32.ofInt 0))), (q4, .inl (cy 0, 744, .inl (fun _ => Int32.ofInt 0))), (q5, .inl (cy 0, 124, .inl (fun _ => Int32.ofInt 0))), (q6, .inl (cy 0, 4, .inl (fun _ => Int32.ofInt 0))), (q7, .inl (cy 3, 10, .inl (fun _ => Int32.ofInt 0))), (q8, .inl (cy 1, 40, .inr (.inl (fun _ => Int64.ofInt 0)))), (q9, .inl (cy 0, 10, .inl (fun _ => Int32.ofInt 0))), (q10, .inl (cy 1, 30, .inr (.inl (fun _ => Int64.ofInt 0)))), (q11, .inl (cy 0, 30, .inl (fun _ => Int32.ofInt 0))), (q12, .inl (cy 0, 14, .inl (fun _ => Int32.ofInt 0))), (q13, .inl (cy 0, 14, .inl (fun _ => Int32.ofInt 0))), (q14, .inl (cy 0, 14, .inl (fun _ => Int32.ofInt 0))), (q15, .inl (cy 0, 16384, .inl (fun _ => Int32.ofInt 0)))] := hD
  refine Wputf F ff_X8_55 hK hP hD hS rfl rfl (Nat.le_of_ble_eq_true rfl) dX8_init_123 (fun H locs hP hD hS => ?_)
  have hP : va_P D vwCl [(a0, .inr (8, [iv 0, .ref q1, iv 0, .ref q2, .ref q3, .ref q4, iv 0, .ref q5, iv 0, iv 0, .ref q6, .ref q7, .ref q8, .ref q9, iv 0, jv 0, .ref q10, .ref q11, .ref q12, .ref q13, .ref q14, iv 0, .ref q15, .null])), (q1, .inl (cy 2, 200, .inl (fun _ => Int32.ofInt 0))), (q2, .inl (cy 0, 124, .inl (fun _ => Int32.ofInt 0))), (q3, .inl (cy 0, 124, .inl (fun _ => Int32.ofInt 0))), (q4, .inl (cy 0, 744, .inl (fun _ => Int32.ofInt 0))), (q5, .inl (cy 0, 124, .inl (fun _ => Int32.ofInt 0))), (q6, .inl (cy 0, 4, .inl (fun _ => Int32.ofInt 0))), (q7, .inl (cy 3, 10, .inl (fun _ => Int32.ofInt 0))), (q8, .inl (cy 1, 40, .inr (.inl (fun _ => Int64.ofInt 0)))), (q9, .inl (cy 0, 10, .inl (fun _ => Int32.ofInt 0))), (q10, .inl (cy 1, 30, .inr (.inl (fun _ => Int64.ofInt 0)))), (q11, .inl (cy 0, 30, .inl (fun _ => Int32.ofInt 0))), (q12, .inl (cy 0, 14, .inl (fun _ => Int32.ofInt 0))), (q13, .inl (cy 0, 14, .inl (fun _ => Int32.ofInt 0))), (q14, .inl (cy 0, 14, .inl (fun _ => Int32.ofInt 0))), (q15, .inl (cy 0, 16384, .inl (fun _ => Int32.ofInt 0)))] H := hP
  have hD : va_D (va_A [(a0, .inr (8, bX8))] s.heap.size) [(a0, .inr (8, [iv 0, .ref q1, iv 0, .ref q2, .ref q3, .ref q4, iv 0, .ref q5, iv 0, iv 0, .ref q6, .ref q7, .ref q8, .ref q9, iv 0, jv 0, .ref q10, .ref q11, .ref q12, .ref q13, .ref q14, iv 0, .ref q15, .null])), (q1, .inl (cy 2, 200, .inl (fun _ => Int32.ofInt 0))), (q2, .inl (cy 0, 124, .inl (fun _ => Int32.ofInt 0))), (q3, .inl (cy 0, 124, .inl (fun _ => Int32.ofInt 0))), (q4, .inl (cy 0, 744, .inl (fun _ => Int32.ofInt 0))), (q5, .inl (cy 0, 124, .inl (fun _ => Int32.ofInt 0))), (q6, .inl (cy 0, 4, .inl (fun _ => Int32.ofInt 0))), (q7, .inl (cy 3, 10, .inl (fun _ => Int32.ofInt 0))), (q8, .inl (cy 1, 40, .inr (.inl (fun _ => Int64.ofInt 0)))), (q9, .inl (cy 0, 10, .inl (fun _ => Int32.ofInt 0))), (q10, .inl (cy 1, 30, .inr (.inl (fun _ => Int64.ofInt 0)))), (q11, .inl (cy 0, 30, .inl (fun _ => Int32.ofInt 0))), (q12, .inl (cy 0, 14, .inl (fun _ => Int32.ofInt 0))), (q13, .inl (cy 0, 14, .inl (fun _ => Int32.ofInt 0))), (q14, .inl (cy 0, 14, .inl (fun _ => Int32.ofInt 0))), (q15, .inl (cy 0, 16384, .inl (fun _ => Int32.ofInt 0)))] := hD
  refine lv_aload_n hx hb dX8_init_126 rfl (lv_at hl 0 rfl) ?_
  refine lv_sipush hx hb dX8_init_127 (v := Int32.ofInt 16384) (by decide) ?_
  refine Wnewa (atype := .int) (ty := .int) (Ly := mLy) (i := 0) (n := 16384) (a0 := (16384, .inl (fun _ => Int32.ofInt 0))) F ac_int rfl rfl hK hP hD hS hA (zI_int 16384) (by decide) (by decide) (Nat.le_of_ble_eq_true rfl) (Nat.le_of_ble_eq_true rfl) dX8_init_130 (fun q16 H hP hD hS => ?_)
  have hP : va_P D vwCl [(a0, .inr (8, [iv 0, .ref q1, iv 0, .ref q2, .ref q3, .ref q4, iv 0, .ref q5, iv 0, iv 0, .ref q6, .ref q7, .ref q8, .ref q9, iv 0, jv 0, .ref q10, .ref q11, .ref q12, .ref q13, .ref q14, iv 0, .ref q15, .null])), (q1, .inl (cy 2, 200, .inl (fun _ => Int32.ofInt 0))), (q2, .inl (cy 0, 124, .inl (fun _ => Int32.ofInt 0))), (q3, .inl (cy 0, 124, .inl (fun _ => Int32.ofInt 0))), (q4, .inl (cy 0, 744, .inl (fun _ => Int32.ofInt 0))), (q5, .inl (cy 0, 124, .inl (fun _ => Int32.ofInt 0))), (q6, .inl (cy 0, 4, .inl (fun _ => Int32.ofInt 0))), (q7, .inl (cy 3, 10, .inl (fun _ => Int32.ofInt 0))), (q8, .inl (cy 1, 40, .inr (.inl (fun _ => Int64.ofInt 0)))), (q9, .inl (cy 0, 10, .inl (fun _ => Int32.ofInt 0))), (q10, .inl (cy 1, 30, .inr (.inl (fun _ => Int64.ofInt 0)))), (q11, .inl (cy 0, 30, .inl (fun _ => Int32.ofInt 0))), (q12, .inl (cy 0, 14, .inl (fun _ => Int32.ofInt 0))), (q13, .inl (cy 0, 14, .inl (fun _ => Int32.ofInt 0))), (q14, .inl (cy 0, 14, .inl (fun _ => Int32.ofInt 0))), (q15, .inl (cy 0, 16384, .inl (fun _ => Int32.ofInt 0))), (q16, .inl (cy 0, 16384, .inl (fun _ => Int32.ofInt 0)))] H := hP
  have hD : va_D (va_A [(a0, .inr (8, bX8))] s.heap.size) [(a0, .inr (8, [iv 0, .ref q1, iv 0, .ref q2, .ref q3, .ref q4, iv 0, .ref q5, iv 0, iv 0, .ref q6, .ref q7, .ref q8, .ref q9, iv 0, jv 0, .ref q10, .ref q11, .ref q12, .ref q13, .ref q14, iv 0, .ref q15, .null])), (q1, .inl (cy 2, 200, .inl (fun _ => Int32.ofInt 0))), (q2, .inl (cy 0, 124, .inl (fun _ => Int32.ofInt 0))), (q3, .inl (cy 0, 124, .inl (fun _ => Int32.ofInt 0))), (q4, .inl (cy 0, 744, .inl (fun _ => Int32.ofInt 0))), (q5, .inl (cy 0, 124, .inl (fun _ => Int32.ofInt 0))), (q6, .inl (cy 0, 4, .inl (fun _ => Int32.ofInt 0))), (q7, .inl (cy 3, 10, .inl (fun _ => Int32.ofInt 0))), (q8, .inl (cy 1, 40, .inr (.inl (fun _ => Int64.ofInt 0)))), (q9, .inl (cy 0, 10, .inl (fun _ => Int32.ofInt 0))), (q10, .inl (cy 1, 30, .inr (.inl (fun _ => Int64.ofInt 0)))), (q11, .inl (cy 0, 30, .inl (fun _ => Int32.ofInt 0))), (q12, .inl (cy 0, 14, .inl (fun _ => Int32.ofInt 0))), (q13, .inl (cy 0, 14, .inl (fun _ => Int32.ofInt 0))), (q14, .inl (cy 0, 14, .inl (fun _ => Int32.ofInt 0))), (q15, .inl (cy 0, 16384, .inl (fun _ => Int32.ofInt 0))), (q16, .inl (cy 0, 16384, .inl (fun _ => Int32.ofInt 0)))] := hD
  refine Wputf F ff_X8_58 hK hP hD hS rfl rfl (Nat.le_of_ble_eq_true rfl) dX8_init_132 (fun H locs hP hD hS => ?_)
  have hP : va_P D vwCl [(a0, .inr (8, [iv 0, .ref q1, iv 0, .ref q2, .ref q3, .ref q4, iv 0, .ref q5, iv 0, iv 0, .ref q6, .ref q7, .ref q8, .ref q9, iv 0, jv 0, .ref q10, .ref q11, .ref q12, .ref q13, .ref q14, iv 0, .ref q15, .ref q16])), (q1, .inl (cy 2, 200, .inl (fun _ => Int32.ofInt 0))), (q2, .inl (cy 0, 124, .inl (fun _ => Int32.ofInt 0))), (q3, .inl (cy 0, 124, .inl (fun _ => Int32.ofInt 0))), (q4, .inl (cy 0, 744, .inl (fun _ => Int32.ofInt 0))), (q5, .inl (cy 0, 124, .inl (fun _ => Int32.ofInt 0))), (q6, .inl (cy 0, 4, .inl (fun _ => Int32.ofInt 0))), (q7, .inl (cy 3, 10, .inl (fun _ => Int32.ofInt 0))), (q8, .inl (cy 1, 40, .inr (.inl (fun _ => Int64.ofInt 0)))), (q9, .inl (cy 0, 10, .inl (fun _ => Int32.ofInt 0))), (q10, .inl (cy 1, 30, .inr (.inl (fun _ => Int64.ofInt 0)))), (q11, .inl (cy 0, 30, .inl (fun _ => Int32.ofInt 0))), (q12, .inl (cy 0, 14, .inl (fun _ => Int32.ofInt 0))), (q13, .inl (cy 0, 14, .inl (fun _ => Int32.ofInt 0))), (q14, .inl (cy 0, 14, .inl (fun _ => Int32.ofInt 0))), (q15, .inl (cy 0, 16384, .inl (fun _ => Int32.ofInt 0))), (q16, .inl (cy 0, 16384, .inl (fun _ => Int32.ofInt 0)))] H := hP
  have hD : va_D (va_A [(a0, .inr (8, bX8))] s.heap.size) [(a0, .inr (8, [iv 0, .ref q1, iv 0, .ref q2, .ref q3, .ref q4, iv 0, .ref q5, iv 0, iv 0, .ref q6, .ref q7, .ref q8, .ref q9, iv 0, jv 0, .ref q10, .ref q11, .ref q12, .ref q13, .ref q14, iv 0, .ref q15, .ref q16])), (q1, .inl (cy 2, 200, .inl (fun _ => Int32.ofInt 0))), (q2, .inl (cy 0, 124, .inl (fun _ => Int32.ofInt 0))), (q3, .inl (cy 0, 124, .inl (fun _ => Int32.ofInt 0))), (q4, .inl (cy 0, 744, .inl (fun _ => Int32.ofInt 0))), (q5, .inl (cy 0, 124, .inl (fun _ => Int32.ofInt 0))), (q6, .inl (cy 0, 4, .inl (fun _ => Int32.ofInt 0))), (q7, .inl (cy 3, 10, .inl (fun _ => Int32.ofInt 0))), (q8, .inl (cy 1, 40, .inr (.inl (fun _ => Int64.ofInt 0)))), (q9, .inl (cy 0, 10, .inl (fun _ => Int32.ofInt 0))), (q10, .inl (cy 1, 30, .inr (.inl (fun _ => Int64.ofInt 0)))), (q11, .inl (cy 0, 30, .inl (fun _ => Int32.ofInt 0))), (q12, .inl (cy 0, 14, .inl (fun _ => Int32.ofInt 0))), (q13, .inl (cy 0, 14, .inl (fun _ => Int32.ofInt 0))), (q14, .inl (cy 0, 14, .inl (fun _ => Int32.ofInt 0))), (q15, .inl (cy 0, 16384, .inl (fun _ => Int32.ofInt 0))), (q16, .inl (cy 0, 16384, .inl (fun _ => Int32.ofInt 0)))] := hD
  have hP := con8_P hP
  have hD := con8_D hD
  refine Ev.tail (M := mX8_init) (dp := 1) (st := []) rfl F (Nat.le_refl _) m8_tail (fun v h q => q) rfl hK hP hD hS ⟨hl.1, hl.2.1, fun i v hv => ?_⟩
  match i, hv with
  | 0, hv => cases hv; exact lv_at hl 0 rfl
  | i + 1, hv => simp at hv
