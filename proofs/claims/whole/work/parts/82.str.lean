/-! The text that the class starts with: String.length, charAt as the JDK's code, over a constant. By program (wip/whole/mk_str.py). -/
def FT : List Int32 := [102, 48, 44, 48, 44, 49, 48, 59, 102, 52, 48, 44, 48, 44, 51, 48, 59, 102, 48, 44, 52, 48, 44, 50, 48, 59, 102, 52, 48, 44, 52, 48, 44, 53, 59, 117, 57, 59, 117, 52, 59, 115, 48, 44, 52, 44, 49, 44, 51, 48, 59, 115, 49, 44, 52, 44, 50, 44, 48, 59, 115, 52, 44, 53, 44, 51, 44, 49, 56, 59, 115, 50, 44, 53, 44, 49, 44, 50, 53, 59, 115, 51, 44, 53, 44, 50, 44, 51, 48, 59, 114, 54, 48, 44, 53, 59]
theorem fl_J0_38 : Cond.fieldLink RJ0 38 "java/lang/String" "COMPACT_STRINGS" "Z" ∈ BG := inT2 6 (by decide +kernel) (by decide +kernel)
theorem fl_J0_1053 : Cond.fieldLink RJ0 1053 "jdk/internal/util/Preconditions" "SIOOBE_FORMATTER" "Ljava/util/function/BiFunction;" ∈ BG := inT2 22 (by decide +kernel) (by decide +kernel)
theorem fl_J0_9 : Cond.fieldLink RJ0 9 "java/lang/String" "value" "[B" ∈ BG := inT5 95 (by decide +kernel) (by decide +kernel)
theorem fl_J0_15 : Cond.fieldLink RJ0 15 "java/lang/String" "coder" "B" ∈ BG := inT5 96 (by decide +kernel) (by decide +kernel)
theorem FT_ok : ∀ k, k < 96 → FT.getD k 0 &&& 255 = FT.getD k 0 ∧ ((FT.getD k 0).toUInt32 % 65536).toInt32 = FT.getD k 0 ∧ 0 ≤ (FT.getD k 0).toInt ∧ (FT.getD k 0).toInt < 65536 := by decide +kernel
abbrev nA : Nat → Prop := fun _ => False
def SX (A : Nat → Prop) (ka kv : Nat) (kf : Option Nat) (U : State) (H : Heap) : Prop := va_O "java/lang/String" ka A U H ∧ va_OF "java/lang/String" "coder" "B" (.int 0) ka A U H ∧ va_OF "java/lang/String" "value" "[B" (.ref kv) ka A U H ∧ va_T .byte kv 96 (fun j => .int (FT.getD j 0)) A U H ∧ va_Z "java/lang/String" "COMPACT_STRINGS" "Z" (.int 1) A U H ∧ va_Z "jdk/internal/util/Preconditions" "SIOOBE_FORMATTER" "Ljava/util/function/BiFunction;" (va_rf kf) A U H
theorem SX.moved {A : Nat → Prop} {ka kv : Nat} {kf : Option Nat} {u U : State} {H : Heap} (hvm : u.vm.Alike U.vm) (h : SX A ka kv kf u H) : SX A ka kv kf U H := ⟨va_O.moved hvm h.1, va_OF.moved hvm h.2.1, va_OF.moved hvm h.2.2.1, va_T.moved hvm h.2.2.2.1, va_Z.moved hvm h.2.2.2.2.1, va_Z.moved hvm h.2.2.2.2.2⟩
theorem SX.kept {A : Nat → Prop} {ka kv : Nat} {kf : Option Nat} {U : State} {H H1 : Heap} (h : SX A ka kv kf U H) (hq : ∀ a : Nat, a < H.size → ¬ A a → H1[a]? = H[a]?) : SX A ka kv kf U H1 := ⟨h.1.kept hq, h.2.1.kept hq, h.2.2.1.kept hq, h.2.2.2.1.kept hq, h.2.2.2.2.1.kept hq, h.2.2.2.2.2.kept hq⟩
theorem SX.narrow {A B : Nat → Prop} {ka kv : Nat} {kf : Option Nat} {U : State} {H : Heap} (h : SX A ka kv kf U H) (hAB : ∀ q, B q → A q) : SX B ka kv kf U H := ⟨h.1.narrow hAB, h.2.1.narrow hAB, h.2.2.1.narrow hAB, h.2.2.2.1.narrow hAB, h.2.2.2.2.1.narrow hAB, h.2.2.2.2.2.narrow hAB⟩
def SPre (ka kv : Nat) (kf : Option Nat) (as : List Value) : Array Value → State → Prop := va_Pc as (fun U => SX nA ka kv kf U U.heap)
def SPost (v : Option Value) : Array Value → State → Outcome → State → Prop := fun _ st o t => o = .returned v ∧ va_F nA st t
abbrev SMet (l : Launch) (y : MethodName) (cc : ByteArray) (nL : Nat) (ret : Option FieldType) (d ka kv : Nat) (kf : Option Nat) (as : List Value) (v : Option Value) : Prop := Met l y (.code y cc nL ret :: BG) (rmd d) (SPre ka kv kf as) (SPost v) 0 0 nA
theorem SPre_blind {ka kv : Nat} {kf : Option Nat} {as : List Value} : FrameBlind (SPre ka kv kf as) := fun a U g mk q => ⟨q.1, SX.moved (u := U) (U := U.calling g mk a) (Vm.Alike.refl U.vm) q.2⟩
def SF (own : String) (cc : ByteArray) (nL : Nat) (p : Program) (s : State) (m : MethodId) (args : Array Value) (c : Code) (A : Nat → Prop) (ka kv : Nat) (kf : Option Nat) : Prop := p.tables.exec = Jvm.exec ∧ c.code = cc ∧ c.maxLocals = nL ∧ s.vm.findClass own = some m.cls ∧ (∀ w ∈ BG, w.before args s = true) ∧ SX A ka kv kf s s.heap
section STR
variable {p : Program} {l : Launch} {e : Env} {R : Room} {s : State} {m : MethodId} {args : Array Value} {below : List Frame} {meth : Method} {c : Code} {H : Heap} {locs : List Loc} {cells slots : Nat} {Q : State → Prop}
variable {cc : ByteArray} {pc nL : Nat} {ls : Array Slot} {rest st : List Value} {A : Nat → Prop} {own : String} {ka kv : Nat} {kf : Option Nat}
theorem SMet.of {y : MethodName} {ret : Option FieldType} {d : Nat} {as : List Value} {v : Option Value} (hy : plainFor y = true) (hyo : y.cls = own) (hnL : (lg_sl as).length ≤ nL)
    (body : ∀ (p : Program) (e : Env) (s : State) (m : MethodId) (args : Array Value) (below : List Frame) (meth : Method) (c : Code) (ls : Array Slot), SF own cc nL p s m args c nA ka kv kf → meth.sig.returnType = ret → meth.locks = false → lv_has ls nL (lv_args 0 as) → W p l e (rmd d) s m args below meth c s.heap [] 0 0 (MQ below (SPost v) args s 0 0 nA) (F0 m 0 ls [])) : SMet l y cc nL ret d ka kv kf as v := by
  refine Met.ofWF (cc := cc) (maxL := nL) (ret := ret) hy rfl ?_
  intro p e s m args below meth c s₁ B hml hv
  obtain ⟨rfl, hX⟩ := hv
  have hts := atoms_spec (ws := .code y cc nL ret :: BG) B.pre
  have hl := lv_entry as (n := nL) hnL
  rw [lg_entry_eq]
  generalize (lg_sl as ++ List.replicate (nL - (lg_sl as).length) Slot.unset).toArray = ls at hl ⊢
  exact body p e s m _ below meth c ls ⟨B.exec, B.bytes, hml, hyo ▸ findClass_of_methodNamed B.named, fun w hw => hts w (List.mem_cons_of_mem _ hw), hX⟩ B.returns B.notSynchronized hl
theorem s_back {v : Option Value} {a : Array Value} {st0 : List Value} (hr : va_Run p l e R s m args below meth c H locs cells slots 0 0 (F0 m pc ls st0) rest (SPost v a) nA) (hS : va_S A s.heap H locs)
    (kk : ∀ (H1 : Heap) (locs1 : List Loc), va_S A s.heap H1 locs1 → H.size ≤ H1.size → (∀ q : Nat, q < H.size → H1[q]? = H[q]?) → W p l e R s m args below meth c H1 locs1 cells slots Q (F0 m (pc + 3) ls (v.toList ++ rest))) : W p l e R s m args below meth c H locs cells slots Q (F0 m pc ls st0) := by
  intro T hT X
  obtain ⟨v', st₀, t, T', L, h0, X', hL, e1, e2, ⟨hv, hz, hk⟩, stp⟩ := hr T hT X
  cases hv
  rw [h0] at hz hk
  obtain ⟨t2, a1, b1⟩ := kk T'.heap (locs ++ L) ⟨Nat.le_trans hS.1 (by rw [e1]; exact hz), fun q h1 h2 => by rw [e1, hk q (Nat.lt_of_lt_of_le h1 hS.1) (fun z => z)]; exact hS.2.1 q h1 h2, fun q hq => by
      rcases List.mem_append.mp hq with h | h
      · exact hS.2.2 q h
      · exact (hL q h).elim⟩ (by rw [e1]; exact hz) (fun q hq => by rw [e1]; exact hk q hq (fun z => z)) T' rfl X'
  exact ⟨t2, stp t2 a1, b1⟩
theorem s_callV {M' : Mi} {y : MethodName} {idx n d' : Nat} {as : List Value} {v : Option Value} (F : SF own cc nL p s m args c A ka kv kf) (hl : ls.size = nL) (hw : CWv own idx y M' n) (hM : SMet l y M'.2.2.1 M'.2.2.2.1 M'.2.2.2.2 d' ka kv kf (.ref ka :: as) v) (hy : y.cls = "java/lang/String") (hn : as.length = n) (hs : st = as.reverse ++ .ref ka :: rest) (hcat : (rest.map fun v => v.category).sum ≤ 8) (hR : d' + 1 ≤ R.frames ∧ 60 * (d' + 1) ≤ R.locals) (hc : cells ≤ R.cells ∧ slots ≤ R.slots) (hS : va_S A s.heap H locs) (hd : decode cc pc = .ok (.invokevirtual idx, 3))
    (kk : ∀ (H1 : Heap) (locs1 : List Loc), va_S A s.heap H1 locs1 → H.size ≤ H1.size → (∀ q : Nat, q < H.size → H1[q]? = H[q]?) → W p l e R s m args below meth c H1 locs1 cells slots Q (F0 m (pc + 3) ls (v.toList ++ rest))) : W p l e R s m args below meth c H locs cells slots Q (F0 m pc ls st) := by
  obtain ⟨fx, fb, fml, fown, fts, fX⟩ := F
  obtain ⟨w1, w2, w3, w4, w5, w6, w7, w8, w9⟩ := hw
  have hX1 := fX.kept hS.2.1
  obtain ⟨cell, c1, c2, c3, c4⟩ := hX1.1
  have hrun := va_runV (p := p) (e := e) (R := R) (s := s) (m := m) (args := args) (below := below) (meth := meth) (c := c) (H := H) (locs := locs) (cells := cells) (slots := slots) (As := as) (rest := rest) (b := ka) (g := F0 m pc ls st) (C := y.cls) ⟨fx, fb, fml, fown, fts⟩ hM
    ⟨callB_of n fts (gdBG w5) rfl rfl rfl (fts _ w4) (fts _ w1) w8 ⟨hR.1, Nat.le_trans (by show 8 + (M'.2.2.2.1 + 11) + 60 * d' ≤ 60 * (d' + 1); omega) hR.2⟩, fts _ w2, fts _ w3⟩
    ⟨SPre_blind, ⟨cell, c1, c2, by rw [hy]; exact c3⟩, fun U hU hW => ⟨rfl, by show SX nA ka kv kf U U.heap; rw [hU]; exact (SX.moved hW.alike hX1).narrow (fun _ z => z.elim)⟩⟩ rfl hn hl hs (lv_room hcat) hd hc
  exact s_back hrun hS kk
theorem s_callS {M' : Mi} {y : MethodName} {idx n d' : Nat} {as : List Value} {v : Option Value} (F : SF own cc nL p s m args c A ka kv kf) (hl : ls.size = nL) (hw : CWs own idx y M' n) (hM : SMet l y M'.2.2.1 M'.2.2.2.1 M'.2.2.2.2 d' ka kv kf as v) (hn : as.length = n) (hs : st = as.reverse ++ rest) (hcat : (rest.map fun v => v.category).sum ≤ 8) (hR : d' + 1 ≤ R.frames ∧ 60 * (d' + 1) ≤ R.locals) (hc : cells ≤ R.cells ∧ slots ≤ R.slots) (hS : va_S A s.heap H locs) (hd : decode cc pc = .ok (.invokestatic idx, 3))
    (kk : ∀ (H1 : Heap) (locs1 : List Loc), va_S A s.heap H1 locs1 → H.size ≤ H1.size → (∀ q : Nat, q < H.size → H1[q]? = H[q]?) → W p l e R s m args below meth c H1 locs1 cells slots Q (F0 m (pc + 3) ls (v.toList ++ rest))) : W p l e R s m args below meth c H locs cells slots Q (F0 m pc ls st) := by
  obtain ⟨fx, fb, fml, fown, fts, fX⟩ := F
  obtain ⟨w1, w2, w4, w5, w6, w7, w8, w9⟩ := hw
  have hX1 := fX.kept hS.2.1
  have hrun := va_runS (p := p) (e := e) (R := R) (s := s) (m := m) (args := args) (below := below) (meth := meth) (c := c) (H := H) (locs := locs) (cells := cells) (slots := slots) (As := as) (rest := rest) (g := F0 m pc ls st) ⟨fx, fb, fml, fown, fts⟩ hM
    ⟨callB_of n fts (gdBG w5) rfl rfl rfl (fts _ w4) (fts _ w1) w8 ⟨hR.1, Nat.le_trans (by show 8 + (M'.2.2.2.1 + 11) + 60 * d' ≤ 60 * (d' + 1); omega) hR.2⟩, fts _ w2⟩
    ⟨SPre_blind, fun U hU hW => ⟨rfl, by show SX nA ka kv kf U U.heap; rw [hU]; exact (SX.moved hW.alike hX1).narrow (fun _ z => z.elim)⟩⟩ rfl hn hl hs (lv_room hcat) hd hc
  exact s_back hrun hS kk
theorem s_ret {v : Value} {ret : FieldType} (hx : p.tables.exec = Jvm.exec) (hb : c.code = cc) (hr : meth.sig.returnType = some ret) (hlk : meth.locks = false) (hn : narrow ret v = v) (hS : va_S nA s.heap H locs) {x : Int32} (hv : v = .int x) (hd : decode cc pc = .ok (.ireturn, 1)) : W p l e R s m args below meth c H locs 0 0 (MQ below (SPost (some v)) args s 0 0 nA) (F0 m pc ls [v]) := by
  subst hv
  exact W.zret hx hb hr hn (fun t ht hW => ⟨rfl, hS.F ht⟩) hS.2.2 hd hlk
theorem s_coder (l : Launch) : SMet l yJ0_coder_7d493 cJ0_coder_7d493 1 (some .byte) 1 ka kv kf [.ref ka] (some (.int 0)) := by
  refine SMet.of (own := RJ0) (by decide) rfl (Nat.le_of_ble_eq_true rfl) ?_
  intro p e s m args below meth c ls F hr hlk hl
  obtain ⟨hx, hb, hml, hown, hts, hX⟩ := F
  have hS : va_S nA s.heap s.heap [] := va_S.rf
  refine va_gets hx hb hX.2.2.2.2.1 hS hown (hts _ fl_J0_38) (fun _ q => q) dJ0_coder_7d493_0 ?_
  refine lv_if_eq (tgt := 13) hx hb dJ0_coder_7d493_3 (by decide) (fun c => absurd c (by decide)) (fun _ => ?_)
  refine lv_aload_n hx hb dJ0_coder_7d493_6 rfl (lv_at hl 0 rfl) ?_
  refine vk_getf hx hb hX.2.1 hS hown (hts _ fl_J0_15) (fun _ q => q) dJ0_coder_7d493_7 ?_
  refine lv_goto (tgt := 14) hx hb dJ0_coder_7d493_10 (by decide) ?_
  exact s_ret hx hb hr hlk rfl hS rfl dJ0_coder_7d493_14
theorem s_latin (l : Launch) : SMet l yJ0_isLatin1_aae02 cJ0_isLatin1_aae02 1 (some .boolean) 1 ka kv kf [.ref ka] (some (.int 1)) := by
  refine SMet.of (own := RJ0) (by decide) rfl (Nat.le_of_ble_eq_true rfl) ?_
  intro p e s m args below meth c ls F hr hlk hl
  obtain ⟨hx, hb, hml, hown, hts, hX⟩ := F
  have hS : va_S nA s.heap s.heap [] := va_S.rf
  refine va_gets hx hb hX.2.2.2.2.1 hS hown (hts _ fl_J0_38) (fun _ q => q) dJ0_isLatin1_aae02_0 ?_
  refine lv_if_eq (tgt := 17) hx hb dJ0_isLatin1_aae02_3 (by decide) (fun c => absurd c (by decide)) (fun _ => ?_)
  refine lv_aload_n hx hb dJ0_isLatin1_aae02_6 rfl (lv_at hl 0 rfl) ?_
  refine vk_getf hx hb hX.2.1 hS hown (hts _ fl_J0_15) (fun _ q => q) dJ0_isLatin1_aae02_7 ?_
  refine lv_if_ne (tgt := 17) hx hb dJ0_isLatin1_aae02_10 (by decide) (fun c => absurd rfl c) (fun _ => ?_)
  refine lv_iconst hx hb dJ0_isLatin1_aae02_13 (v := 1) rfl ?_
  refine lv_goto (tgt := 18) hx hb dJ0_isLatin1_aae02_14 (by decide) ?_
  exact s_ret hx hb hr hlk rfl hS rfl dJ0_isLatin1_aae02_18
theorem s_length (l : Launch) : SMet l yJ0_length_8abf5 cJ0_length_8abf5 1 (some .int) 2 ka kv kf [.ref ka] (some (.int 96)) := by
  refine SMet.of (own := RJ0) (by decide) rfl (Nat.le_of_ble_eq_true rfl) ?_
  intro p e s m args below meth c ls F hr hlk hl
  have hF := F
  obtain ⟨hx, hb, hml, hown, hts, hX⟩ := F
  have hS : va_S nA s.heap s.heap [] := va_S.rf
  refine lv_aload_n hx hb dJ0_length_8abf5_0 rfl (lv_at hl 0 rfl) ?_
  refine vk_getf hx hb hX.2.2.1 hS hown (hts _ fl_J0_9) (fun _ q => q) dJ0_length_8abf5_1 ?_
  refine va_tlen hx hb hX.2.2.2.1 hS (v := 96) rfl dJ0_length_8abf5_4 ?_
  refine lv_aload_n hx hb dJ0_length_8abf5_5 rfl (lv_at hl 0 rfl) ?_
  refine s_callV hF hl.1 cw_J0_335 (s_coder l) rfl rfl (as := []) rfl (by decide) ⟨by decide, by decide⟩ ⟨Nat.le_refl _, Nat.le_refl _⟩ hS dJ0_length_8abf5_6 (fun H1 locs1 hS _ _ => ?_)
  refine lv_ishr hx hb dJ0_length_8abf5_9 ?_
  exact s_ret hx hb hr hlk rfl hS rfl dJ0_length_8abf5_10
theorem s_check3 (l : Launch) {k : Nat} (hk : k < 96) : SMet l yJ3_checkIndex_8e157 cJ3_checkIndex_8e157 3 (some .int) 1 ka kv kf [iv k, .int 96, va_rf kf] (some (iv k)) := by
  refine SMet.of (own := RJ3) (by decide) rfl (by cases kf <;> exact Nat.le_of_ble_eq_true rfl) ?_
  intro p e s m args below meth c ls F hr hlk hl
  obtain ⟨hx, hb, hml, hown, hts, hX⟩ := F
  have hS : va_S nA s.heap s.heap [] := va_S.rf
  refine lv_iload_n hx hb dJ3_checkIndex_8e157_0 rfl (lv_at hl 0 rfl) ?_
  refine lv_if_lt (tgt := 9) hx hb dJ3_checkIndex_8e157_1 (by decide) (fun c => ?_) (fun _ => ?_)
  · have := (i32lt ⟨by omega, by omega⟩ i32z).mp c
    omega
  refine lv_iload_n hx hb dJ3_checkIndex_8e157_4 rfl (lv_at hl 0 rfl) ?_
  refine lv_iload_n hx hb dJ3_checkIndex_8e157_5 rfl (lv_at hl 1 rfl) ?_
  refine lv_icmp_lt (tgt := 16) hx hb dJ3_checkIndex_8e157_6 (by decide) (fun _ => ?_) (fun c => absurd ((i32lt (x := k) (y := 96) ⟨by omega, by omega⟩ ⟨by omega, by omega⟩).mpr (by omega)) c)
  refine lv_iload_n hx hb dJ3_checkIndex_8e157_16 rfl (lv_at hl 0 rfl) ?_
  exact s_ret hx hb hr hlk rfl hS rfl dJ3_checkIndex_8e157_17
theorem s_check (l : Launch) {k : Nat} (hk : k < 96) : SMet l yJ0_checkIndex_df160 cJ0_checkIndex_df160 2 none 2 ka kv kf [iv k, .int 96] none := by
  refine SMet.of (own := RJ0) (by decide) rfl (Nat.le_of_ble_eq_true rfl) ?_
  intro p e s m args below meth c ls F hr hlk hl
  have hF := F
  obtain ⟨hx, hb, hml, hown, hts, hX⟩ := F
  have hS : va_S nA s.heap s.heap [] := va_S.rf
  refine lv_iload_n hx hb dJ0_checkIndex_df160_0 rfl (lv_at hl 0 rfl) ?_
  refine lv_iload_n hx hb dJ0_checkIndex_df160_1 rfl (lv_at hl 1 rfl) ?_
  refine va_gets hx hb hX.2.2.2.2.2 hS hown (hts _ fl_J0_1053) (fun _ q => q) dJ0_checkIndex_df160_2 ?_
  refine s_callS hF hl.1 cw_J0_1059 (s_check3 l hk) rfl (rest := []) rfl (by decide) ⟨by decide, by decide⟩ ⟨Nat.le_refl _, Nat.le_refl _⟩ hS dJ0_checkIndex_df160_5 (fun H1 locs1 hS _ _ => ?_)
  refine lv_pop hx hb dJ0_checkIndex_df160_8 rfl ?_
  exact W.vret hx hb hr (fun t ht hW => ⟨rfl, hS.F ht⟩) hS.2.2 dJ0_checkIndex_df160_9 hlk
theorem s_charAt1 (l : Launch) {k : Nat} (hk : k < 96) : SMet l yJ1_charAt_3b067 cJ1_charAt_3b067 2 (some .char) 3 ka kv kf [.ref kv, iv k] (some (.int (FT.getD k 0))) := by
  refine SMet.of (own := RJ1) (by decide) rfl (Nat.le_of_ble_eq_true rfl) ?_
  intro p e s m args below meth c ls F hr hlk hl
  have hF := F
  obtain ⟨hx, hb, hml, hown, hts, hX⟩ := F
  have hS : va_S nA s.heap s.heap [] := va_S.rf
  refine lv_iload_n hx hb dJ1_charAt_3b067_0 rfl (lv_at hl 1 rfl) ?_
  refine lv_aload_n hx hb dJ1_charAt_3b067_1 rfl (lv_at hl 0 rfl) ?_
  refine va_tlen hx hb hX.2.2.2.1 hS (v := 96) rfl dJ1_charAt_3b067_2 ?_
  refine s_callS hF hl.1 cw_J1_9 (s_check l hk) rfl (rest := []) rfl (by decide) ⟨by decide, by decide⟩ ⟨Nat.le_refl _, Nat.le_refl _⟩ hS dJ1_charAt_3b067_3 (fun H1 locs1 hS _ _ => ?_)
  refine lv_aload_n hx hb dJ1_charAt_3b067_6 rfl (lv_at hl 0 rfl) ?_
  refine lv_iload_n hx hb dJ1_charAt_3b067_7 rfl (lv_at hl 1 rfl) ?_
  refine va_tb hx hb hX.2.2.2.1 hS (i := Int32.ofInt k) (i32in (by omega) (by omega) (by omega)) (v := .int (FT.getD k 0)) (by rw [i32cl (by omega) (by omega)]; rfl) dJ1_charAt_3b067_8 ?_
  refine lv_sipush hx hb dJ1_charAt_3b067_9 (v := 255) rfl ?_
  refine lv_iand hx hb dJ1_charAt_3b067_12 ?_
  obtain ⟨f1, f2, f3, f4⟩ := FT_ok k hk
  rw [f1]
  refine lv_i2c hx hb dJ1_charAt_3b067_13 f2 ?_
  exact s_ret hx hb hr hlk (congrArg Value.int f2) hS rfl dJ1_charAt_3b067_14
theorem s_charAt (l : Launch) {k : Nat} (hk : k < 96) : SMet l yJ0_charAt_5068e cJ0_charAt_5068e 2 (some .char) 4 ka kv kf [.ref ka, iv k] (some (.int (FT.getD k 0))) := by
  refine SMet.of (own := RJ0) (by decide) rfl (Nat.le_of_ble_eq_true rfl) ?_
  intro p e s m args below meth c ls F hr hlk hl
  have hF := F
  obtain ⟨hx, hb, hml, hown, hts, hX⟩ := F
  have hS : va_S nA s.heap s.heap [] := va_S.rf
  refine lv_aload_n hx hb dJ0_charAt_5068e_0 rfl (lv_at hl 0 rfl) ?_
  refine s_callV hF hl.1 cw_J0_492 (s_latin l) rfl rfl (as := []) rfl (by decide) ⟨by decide, by decide⟩ ⟨Nat.le_refl _, Nat.le_refl _⟩ hS dJ0_charAt_5068e_1 (fun H1 locs1 hS _ _ => ?_)
  refine lv_if_eq (tgt := 16) hx hb dJ0_charAt_5068e_4 (by decide) (fun c => absurd c (by decide)) (fun _ => ?_)
  refine lv_aload_n hx hb dJ0_charAt_5068e_7 rfl (lv_at hl 0 rfl) ?_
  refine vk_getf hx hb hX.2.2.1 hS hown (hts _ fl_J0_9) (fun _ q => q) dJ0_charAt_5068e_8 ?_
  refine lv_iload_n hx hb dJ0_charAt_5068e_11 rfl (lv_at hl 1 rfl) ?_
  refine s_callS hF hl.1 cw_J0_495 (s_charAt1 l hk) rfl (rest := []) rfl (by decide) ⟨by decide, by decide⟩ ⟨Nat.le_refl _, Nat.le_refl _⟩ hS dJ0_charAt_5068e_12 (fun H1 locs1 hS _ _ => ?_)
  exact s_ret hx hb hr hlk (congrArg Value.int (FT_ok k hk).2.1) hS rfl dJ0_charAt_5068e_15
end STR
