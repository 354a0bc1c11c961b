/-! The law: an object of ours comes, with its region; the calls of both sides. -/
section LAW2
variable {p : Program} {l : Launch} {e : Env} {R : Room} {s : State} {m : MethodId} {args : Array Value} {below : List Frame} {meth : Method} {c : Code} {H H0 : Heap} {locs : List Loc} {cells slots : Nat} {Q : State → Prop}
variable {cc : ByteArray} {pc nL : Nat} {ls : Array Slot} {rest st : List Value} {D : va_G} {A : Nat → Prop} {ws : va_W} {cy : Nat → ClassId} {own : String}
theorem Rnew {y : MethodName} {cc' : ByteArray} {nL' nc ns ci N idx idx2 : Nat} {rm : Room} {C : String} {T : u_T} {fs : List Value} {Ly : Lay} {E : (Nat → Prop) → State → Prop} {Good : Hp → Prop} (hx : p.tables.exec = Jvm.exec) (hb : c.code = cc) (hml : c.maxLocals = nL) (hown : s.vm.findClass own = some m.cls) (hts : ∀ w ∈ BG, w.before args s = true) (hN : NW s) (hl : ls.size = nL) (hc : vwCl[ci]? = some (C, T, N)) (hin : ∀ w ∈ u_ws C T N, w ∈ BG) (ty : Nat → FieldType) (hty : ∀ k, k < N → parseFieldDescriptor (T k).2.2.1 = some (ty k)) (hfs : ∀ j, j < N → defaultValue (ty j) = vp_V fs j)
    (w1 : Cond.classLink own idx C ∈ BG) (w2 : Cond.instantiable C N ∈ BG) (w3 : Cond.initialized y.cls ∈ BG) (w3' : Cond.initialized C ∈ BG) (w4 : Cond.methodLink own idx2 y ∈ BG) (w5 : Cond.instanceMethod y ∈ BG) (w6 : Cond.code y cc' nL' none ∈ BG) (hyn : y.name = "<init>") (hyd : y.cls ≠ "java/lang/invoke/MethodHandle" ∧ y.cls ≠ "java/lang/invoke/VarHandle" ∧ (parseMethodDescriptor y.desc).map (fun d => d.parameters.length) = some 0)
    (hM : RgMet l Ly E Good D cy y cc' nL' rm ci fs nc ns) (hEb : EBl E) (hE : ∀ (q : Nat) (H1 : Heap), A q → va_S A H0 H1 locs → ∀ U : State, U.heap = H1 → s.WarmedH U.vm → E (va_A [(q, .inr (ci, fs))] H1.size) U) (hrc : rm.cells = nc) (hrs : rm.slots = ns) (hrm : rm.frames + 1 ≤ R.frames ∧ 8 + (nL' + 11) + rm.locals ≤ R.locals) (hcells : cells + 1 + nc ≤ R.cells) (hslots : slots + N + ns ≤ R.slots) (hst : (rest.map fun v => v.category).sum + 1 ≤ 8)
    (hK : va_K D vwCl (kty Ly cy) s) (hAO : AOs s) (hP : va_P D vwCl ws H) (hD : va_D A ws) (hS : va_S A H0 H locs) (hA : ∀ q, H0.size ≤ q → A q) (d0 : decode cc pc = .ok (.new idx, 3)) (d3 : decode cc (pc + 3) = .ok (.dup, 1)) (d4 : decode cc (pc + 3 + 1) = .ok (.invokespecial idx2, 3))
    (kk : ∀ (ad : Nat → Nat) (h : Hp) (H1 : Heap) (locs1 : List Loc), Good h → va_P D vwCl (ws ++ lws Ly cy ad h) H1 → va_D A (ws ++ lws Ly cy ad h) → va_S A H0 H1 locs1 → W p l e R s m args below meth c H1 locs1 (cells + 1 + nc) (slots + N + ns) Q (F0 m (pc + 3 + 1 + 3) ls (.ref (ad 0) :: rest))) : W p l e R s m args below meth c H locs cells slots Q (F0 m pc ls rest) := by
  refine va_new hx hb hts hin ty hty hown (hts _ w1) (hts _ w2) (hts _ w3') hK hP hD hS hA hc hfs (by omega) (by omega) d0 (fun q H1 hP1 hD1 hS1 => ?_)
  refine lv_dup hx hb d3 rfl ?_
  have hPq : va_P D vwCl [(q, .inr (ci, fs))] H1 := fun k x hx => hP1 (ws.length + k) x (by rw [List.getElem?_append_right (by omega), Nat.add_sub_cancel_left]; exact hx)
  have hAq : A q := hD1.2 ws.length (q, .inr (ci, fs)) (by rw [List.getElem?_append_right (Nat.le_refl _), Nat.sub_self]; rfl)
  have hql : q < H1.size := (hPq 0 _ rfl).lt
  have hpre : PreS s H1 (RgPre Ly E D cy q ci fs H1.size) (.ref q :: []) := ⟨RgPre_blind hEb, fun U hU hW => ⟨rfl, by rw [hU], va_K.moved hW.alike hK, by rw [hU]; exact hPq, va_Nw.warmM hW hN, hAO.warm hW, hE q H1 hAq hS1 U hU hW⟩⟩
  have hrm2 : 2 * (F0 m (pc + 3 + 1) ls (.ref q :: .ref q :: rest)).monitorRoom + ((.ref q :: rest : List Value).map fun v => v.category).sum ≤ 8 := by show 2 * 0 + (1 + (rest.map fun v => v.category).sum) ≤ 8; omega
  have hrun : va_Run p l e R s m args below meth c H1 locs (cells + 1) (slots + N) nc ns (F0 m (pc + 3 + 1) ls (.ref q :: .ref q :: rest)) (.ref q :: rest) (RgPost Ly D cy Good q ci fs H1.size (Value.ref q :: []).toArray) (va_A [(q, .inr (ci, fs))] H1.size) :=
    va_runI (b := q) ⟨hx, hb, hml, hown, hts⟩ (hM q H1.size) ⟨callB_of 0 hts (gdBG w6) rfl hrc hrs (hts _ w3) (hts _ w4) hyd hrm, hyn, hts _ w5⟩ hpre rfl rfl hl rfl hrm2 d4 ⟨hcells, hslots⟩
  intro T0 hT XX
  obtain ⟨v, st₀, t, T', L, h0, X', hL, e1, e2, ⟨⟨ad, h, hv, ha0, hgood, hPx, hDx⟩, hz, hk⟩, stp⟩ := hrun T0 hT XX
  cases hv
  rw [h0] at hz hk
  have nA : ∀ x, x < H1.size → x ≠ q → ¬ va_A [(q, .inr (ci, fs))] H1.size x := fun x hx hne z => by
    rcases z with ⟨k, e, z⟩ | z
    · match k, z with
      | 0, z => cases z; exact hne rfl
      | k + 1, z => simp at z
    · omega
  have AA : ∀ x, va_A [(q, .inr (ci, fs))] H1.size x → A x := fun x z => by
    rcases z with ⟨k, e, z⟩ | z
    · match k, z with
      | 0, z => cases z; exact hAq
      | k + 1, z => simp at z
    · exact hA x (Nat.le_trans hS1.1 z)
  have hold : ∀ (k : Nat) (x : Nat × va_E), ws[k]? = some x → x.1 < H1.size ∧ x.1 ≠ q := fun k x hx => by
    have hx1 : (ws ++ [(q, .inr (ci, fs))])[k]? = some x := by rw [List.getElem?_append_left (List.getElem?_eq_some_iff.mp hx).1]; exact hx
    refine ⟨(hP1 k x hx1).lt, fun z => ?_⟩
    have := hD1.1 k ws.length x (q, .inr (ci, fs)) hx1 (by rw [List.getElem?_append_right (Nat.le_refl _), Nat.sub_self]; rfl) z
    have := (List.getElem?_eq_some_iff.mp hx).1
    omega
  obtain ⟨t2, a1, b1⟩ := kk ad h T'.heap (locs ++ L) hgood (va_P.app (fun k x hx => by
      obtain ⟨g1, g2⟩ := hold k x hx
      refine (hP1 k x (by rw [List.getElem?_append_left (List.getElem?_eq_some_iff.mp hx).1]; exact hx)).kept ?_
      rw [e1]
      exact hk x.1 g1 (nA x.1 g1 g2)) (by rw [e1]; exact hPx))
    (va_D.app hD (hDx.weaken (fun k x _ z => AA x.1 z)) (fun i j x y hxi hyj hxy => by
      obtain ⟨g1, g2⟩ := hold i x hxi
      exact nA x.1 g1 g2 (by rw [hxy]; exact hDx.2 j y hyj)))
    ⟨Nat.le_trans hS1.1 (by rw [e1]; exact hz), fun x h1 h2 => by
      rw [e1, hk x (Nat.lt_of_lt_of_le h1 hS1.1) (fun z => h2 (AA x z))]
      exact hS1.2.1 x h1 h2, fun x hx => by
      rcases List.mem_append.mp hx with z | z
      · exact hS1.2.2 x z
      · exact AA _ (hL x z)⟩ T' rfl X'
  refine ⟨t2, stp t2 ?_, b1⟩
  rw [ha0] at a1
  exact a1
end LAW2
theorem D_l {A : Nat → Prop} {w w' : va_W} (h : va_D A (w ++ w')) : va_D A w := ⟨fun i j x y hx hy => h.1 i j x y (by rw [List.getElem?_append_left (List.getElem?_eq_some_iff.mp hx).1]; exact hx) (by rw [List.getElem?_append_left (List.getElem?_eq_some_iff.mp hy).1]; exact hy), fun k q hk => h.2 k q (by rw [List.getElem?_append_left (List.getElem?_eq_some_iff.mp hk).1]; exact hk)⟩
theorem D_r {A : Nat → Prop} {w w' : va_W} (h : va_D A (w ++ w')) : va_D A w' := by
  have k : ∀ (i : Nat) (x : Nat × va_E), w'[i]? = some x → (w ++ w')[w.length + i]? = some x := fun i x hx => by rw [List.getElem?_append_right (by omega), Nat.add_sub_cancel_left]; exact hx
  exact ⟨fun i j x y hx hy e => by have := h.1 _ _ x y (k i x hx) (k j y hy) e; omega, fun i q hi => h.2 _ q (k i q hi)⟩
theorem D_dis {A : Nat → Prop} {Ly Ly' : Lay} {cy cy' ad ad' : Nat → Nat} {h h' : Hp} (hD : va_D A (lws Ly cy ad h ++ lws Ly' cy' ad' h')) (q : Nat) (h1 : rA Ly ad q) (h2 : rA Ly' ad' q) : False := by
  obtain ⟨i, hi, rfl⟩ := h1
  obtain ⟨j, hj, e⟩ := h2
  have a : (lws Ly cy ad h)[i]? = some (ad i, _) := lws_get (List.getElem?_eq_getElem hi)
  have b : (lws Ly' cy' ad' h')[j]? = some (ad' j, _) := lws_get (List.getElem?_eq_getElem hj)
  have hl : i < (lws Ly cy ad h).length := by rw [lws_len]; exact hi
  have := hD.1 i ((lws Ly cy ad h).length + j) _ _ (by rw [List.getElem?_append_left hl]; exact a) (by rw [List.getElem?_append_right (by omega), Nat.add_sub_cancel_left]; exact b) e
  omega
/-- what stays as it is along the law -/
def LW (p : Program) (s : State) (m : MethodId) (c : Code) (D : va_G) (cyC cyM : Nat → ClassId) (b L : Nat) (xs : Nat → Int32) : Prop := p.tables.exec = Jvm.exec ∧ c.code = cL_law ∧ c.maxLocals = 4 ∧ s.vm.findClass "RoofNetLaw" = some m.cls ∧ (∀ w ∈ BG, w.before #[Value.ref b] s = true) ∧ NW s ∧ va_K D vwCl (kty cLy cyC) s ∧ va_K D vwCl (kty mLy cyM) s ∧ va_X b L xs s s.heap ∧ b < s.heap.size ∧ L ≤ 2048
abbrev aN (s : State) : Nat → Prop := fun q => s.heap.size ≤ q
def JJ (D : va_G) (cyC cyM adC adM : Nat → Nat) (s : State) (h g : Hp) (H : Heap) (locs : List Loc) : Prop := va_P D vwCl (lws cLy cyC adC h) H ∧ va_P D vwCl (lws mLy cyM adM g) H ∧ va_D (aN s) (lws cLy cyC adC h) ∧ va_D (aN s) (lws mLy cyM adM g) ∧ (∀ q, rA cLy adC q → rA mLy adM q → False) ∧ va_S (aN s) s.heap H locs
theorem rA_in {Ly : Lay} {cy ad : Nat → Nat} {h : Hp} {k : Nat} {x : Nat × va_E} (hk : (lws Ly cy ad h)[k]? = some x) : rA Ly ad x.1 := by
  have hl : k < Ly.2.length := by
    have := (List.getElem?_eq_some_iff.mp hk).1
    rwa [lws_len] at this
  rw [lws_get (List.getElem?_eq_getElem hl)] at hk
  cases hk
  exact ⟨k, hl, rfl⟩
section LAW3
variable {p : Program} {l : Launch} {e : Env} {s : State} {m : MethodId} {below : List Frame} {meth : Method} {c : Code} {H : Heap} {locs : List Loc} {Q : State → Prop} {b L : Nat} {xs : Nat → Int32}
variable {pc : Nat} {ls : Array Slot} {rest st : List Value} {D : va_G} {cyC cyM adC adM : Nat → Nat} {h g : Hp}
theorem callC {y : MethodName} {cc' : ByteArray} {idx n d' nL' : Nat} {as : List Value} {a : Int × St} (F : LW p s m c D cyC cyM b L xs) (hl : ls.size = 4) (hw : CWv "RoofNetLaw" idx y (cLy, RX7, cc', nL', some .int) n) (hna : as.length = n) (hne : (entA (.ref 0 :: as)).length ≤ nL') (hd' : d' ≤ 20) (hst : (rest.map fun v => v.category).sum ≤ 8) (hs : st = (as.map (cv adC)).reverse ++ .ref (adC 0) :: rest) (J : JJ D cyC cyM adC adM s h g H locs) (hd : decode cL_law pc = .ok (.invokevirtual idx, 3)) (hE : Ev (cLy, RX7, cc', nL', some .int) d' 0 (entL (.ref 0 :: as) nL') [] h (PA a))
    (kk : ∀ (h' : Hp) (H1 : Heap) (locs1 : List Loc), CInv h' a.2 → JJ D cyC cyM adC adM s h' g H1 locs1 → W p l e room_1 s m #[Value.ref b] below meth c H1 locs1 200 40000 Q (F0 m (pc + 3) ls (iv a.1 :: rest))) : W p l e room_1 s m #[Value.ref b] below meth c H locs 200 40000 Q (F0 m pc ls st) := by
  obtain ⟨hx, hb, hml, hown, hB, hN, hKC, hKM, hX, hbl, hL⟩ := F
  obtain ⟨j1, j2, j3, j4, j5, j6⟩ := J
  refine rgV (M' := (cLy, RX7, cc', nL', some .int)) (id := 0) (ci := 7) (ks := [2, 2, 2, 2, 2, 2, 2, 2]) (T := TX7) (N := 8) hx hb hml hown hB hN hl hw hna hne (d' := d') ⟨by show d' + 1 ≤ 2048; omega, by show 60 * (d' + 1) ≤ 84000; omega⟩ ⟨by decide, by decide⟩ rfl (by rw [hw.2.2.2.2.2.1]; rfl) hst hs hKC j1 j3 j6 hd hE (fun v h' H1 locs1 hp hP hD hS hz hq => ?_)
  obtain ⟨x, rfl, rfl, hI⟩ := hp
  exact kk h' H1 locs1 hI ⟨hP, fun k x hk => (j2 k x hk).kept (hq x.1 (j2 k x hk).lt (fun z => j5 _ z (rA_in hk))), hD, j4, j5, hS⟩
theorem callMo {y : MethodName} {cc' : ByteArray} {idx n d' nL' : Nat} {as : List Value} {a : Int × St} (F : LW p s m c D cyC cyM b L xs) (hl : ls.size = 4) (hw : CWv "RoofNetLaw" idx y (mLy, RX8, cc', nL', some .int) n) (hna : as.length = n) (hne : (entA (.ref 0 :: as)).length ≤ nL') (hd' : d' ≤ 20) (hst : (rest.map fun v => v.category).sum ≤ 8) (hs : st = (as.map (cv adM)).reverse ++ .ref (adM 0) :: rest) (J : JJ D cyC cyM adC adM s h g H locs) (hd : decode cL_law pc = .ok (.invokevirtual idx, 3)) (hE : Ev (mLy, RX8, cc', nL', some .int) d' 0 (entL (.ref 0 :: as) nL') [] g (PM a))
    (kk : ∀ (g' : Hp) (H1 : Heap) (locs1 : List Loc), MInv g' a.2 → JJ D cyC cyM adC adM s h g' H1 locs1 → W p l e room_1 s m #[Value.ref b] below meth c H1 locs1 200 40000 Q (F0 m (pc + 3) ls (iv a.1 :: rest))) : W p l e room_1 s m #[Value.ref b] below meth c H locs 200 40000 Q (F0 m pc ls st) := by
  obtain ⟨hx, hb, hml, hown, hB, hN, hKC, hKM, hX, hbl, hL⟩ := F
  obtain ⟨j1, j2, j3, j4, j5, j6⟩ := J
  refine rgV (M' := (mLy, RX8, cc', nL', some .int)) (id := 0) (ci := 8) (ks := modK) (T := TX8) (N := 24) hx hb hml hown hB hN hl hw hna hne (d' := d') ⟨by show d' + 1 ≤ 2048; omega, by show 60 * (d' + 1) ≤ 84000; omega⟩ ⟨by decide, by decide⟩ rfl (by rw [hw.2.2.2.2.2.1]; rfl) hst hs hKM j2 j4 j6 hd hE (fun v g' H1 locs1 hp hP hD hS hz hq => ?_)
  obtain ⟨x, rfl, rfl, hI⟩ := hp
  exact kk g' H1 locs1 hI ⟨fun k x hk => (j1 k x hk).kept (hq x.1 (j1 k x hk).lt (fun z => j5 _ (rA_in hk) z)), hP, j3, hD, j5, hS⟩
theorem Warg {i j a1 a2 : Nat} {jj : Int} (F : LW p s m c D cyC cyM b L xs) (J : JJ D cyC cyM adC adM s h g H locs) (hl : lv_has ls 4 [(3, iv (i : Int)), (2, .ref a2), (1, .ref a1), (0, .ref b)]) (hi : i + j < L) (hj : jj = (j : Int)) (d1 : decode cL_law pc = .ok (.aload_n 0, 1)) (d2 : decode cL_law (pc + 1) = .ok (.iload_n 3, 1)) (d3 : decode cL_law (pc + 1 + 1) = .ok (.iconst jj, 1)) (d4 : decode cL_law (pc + 1 + 1 + 1) = .ok (.iadd, 1)) (d5 : decode cL_law (pc + 1 + 1 + 1 + 1) = .ok (.iaload, 1))
    (kk : W p l e room_1 s m #[Value.ref b] below meth c H locs 200 40000 Q (F0 m (pc + 1 + 1 + 1 + 1 + 1) ls (iv (xs (i + j)).toInt :: rest))) : W p l e room_1 s m #[Value.ref b] below meth c H locs 200 40000 Q (F0 m pc ls rest) := by
  obtain ⟨hx, hb, hml, hown, hB, hN, hKC, hKM, hX, hbl, hL⟩ := F
  subst hj
  refine lv_aload_n hx hb d1 rfl (lv_at hl 3 rfl) ?_
  refine lv_iload_n hx hb d2 rfl (lv_at hl 0 rfl) ?_
  refine lv_iconst hx hb d3 (v := Int32.ofInt (j : Int)) rfl ?_
  refine lv_iadd hx hb d4 ?_
  rw [← Int32.ofInt_add]
  refine va_sld hx hb hX hbl (by show ¬ s.heap.size ≤ b; omega) J.2.2.2.2.2 (i := Int32.ofInt ((i : Int) + (j : Int))) (i32in (by omega) (by omega) (by omega)) d5 ?_
  rw [i32cl (by omega) (by omega), show ((i : Int) + (j : Int)).toNat = i + j by omega, show (Value.int (xs (i + j))) = iv (xs (i + j)).toInt from congrArg Value.int (Int32.ofInt_toInt _).symm]
  exact kk
theorem xI32 {k : Nat} : I32 (xs k).toInt := ⟨Int32.le_toInt _, Int32.toInt_le _⟩
end LAW3
