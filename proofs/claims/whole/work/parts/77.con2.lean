/-! Constructors: rows over growing worlds. -/
theorem RA_un {U : State} {a b : ClassId} {ty : FieldType} (h : va_RA U a ty) (g : va_RA U b ty) : a = b := by
  cases ty with
  | object C =>
    obtain ⟨_, _, _, _, _, h⟩ := h
    obtain ⟨_, _, _, _, _, g⟩ := g
    exact Option.some.inj (h.symm.trans g)
  | _ =>
    have h : U.vm.findClass _ = some a := h
    have g : U.vm.findClass _ = some b := g
    exact Option.some.inj (h.symm.trans g)
/-- the nest mates' private constructors -/
def NS (U : State) : Prop := va_Nw (.methodLinkNest RX7 9 yX1_init "RoofNet") U ∧ va_Nw (.methodLinkNest RX7 18 yX5_init "RoofNet") U ∧ va_Nw (.methodLinkNest RX3 17 yX2_init "RoofNet") U ∧ va_Nw (.methodLinkNest RX7 32 yX4_init "RoofNet") U ∧ va_Nw (.methodLinkNest RX7 39 yX6_init "RoofNet") U ∧ va_Nw (.methodLinkNest RX6 11 yX2_init "RoofNet") U ∧ va_Nw (.methodLinkNest RX6 20 yX4_init "RoofNet") U ∧ va_Nw (.methodLinkNest RX7 46 yX0_init "RoofNet") U ∧ va_Nw (.methodLinkNest RX7 53 yX2_init "RoofNet") U
theorem NS.warm {s U : State} (hW : s.WarmedH U.vm) (h : NS s) : NS U := by
  obtain ⟨h1, h2, h3, h4, h5, h6, h7, h8, h9⟩ := h
  exact ⟨va_Nw.warmM hW h1, va_Nw.warmM hW h2, va_Nw.warmM hW h3, va_Nw.warmM hW h4, va_Nw.warmM hW h5, va_Nw.warmM hW h6, va_Nw.warmM hW h7, va_Nw.warmM hW h8, va_Nw.warmM hW h9⟩
theorem NS.same {s U : State} (e : s.vm = U.vm) (h : NS s) : NS U := by
  obtain ⟨h1, h2, h3, h4, h5, h6, h7, h8, h9⟩ := h
  exact ⟨va_Nw.same rfl e h1, va_Nw.same rfl e h2, va_Nw.same rfl e h3, va_Nw.same rfl e h4, va_Nw.same rfl e h5, va_Nw.same rfl e h6, va_Nw.same rfl e h7, va_Nw.same rfl e h8, va_Nw.same rfl e h9⟩
/-- what arrays of references the launch knows -/
def AOr (U : State) : Prop := va_AO "RoofNet$Net" U ∧ (Cond.arrayOver (.array .long)).before #[] U = true
def AOs (U : State) : Prop := AOr U ∧ NS U
theorem aol_spec {s : State} (h : (Cond.arrayOver (.array .long)).before #[] s = true) : ∃ comp ci k, s.vm.findClass (FieldType.array .long).toString = some comp ∧ (s.vm.classes.findIdx? fun x => match x.kind with | .array component _ => component == comp | _ => false) = some ci ∧ s.vm.classes[ci]? = some k ∧ k.kind = .array comp (.array .long) ∧ s.vm.findClass ("[" ++ (FieldType.array .long).toString) = some ci := by
  simp only [Cond.before, Cond.holds, Cond.value, beq_iff_eq] at h
  cases hc : s.vm.findClass (FieldType.array .long).toString with
  | none => simp [hc] at h
  | some comp =>
    simp only [hc, Option.bind_some, Option.bind_eq_some_iff, Option.map_eq_some_iff] at h
    obtain ⟨ci, hi, k, hk, hb⟩ := h
    obtain ⟨hlt, hp, -⟩ := Array.findIdx?_eq_some_iff_getElem.mp hi
    have hkk : s.vm.classes[ci] = k := (Array.getElem?_eq_some_iff.mp hk).2
    rw [hkk] at hp
    cases hkind : k.kind with
    | array component ty =>
      rw [hkind] at hb hp
      simp at hb hp
      exact ⟨comp, ci, k, rfl, hi, hk, by rw [hkind, hp, hb.1], hb.2⟩
    | _ => rw [hkind] at hb; simp at hb
theorem AOr.moved {u U : State} (hvm : u.vm.Alike U.vm) (h : AOr u) : AOr U := by
  refine ⟨va_AO.moved hvm h.1, ?_⟩
  obtain ⟨comp, c, k, h1, h2, h3, h4, h5⟩ := aol_spec h.2
  obtain ⟨k', hk', he⟩ := hvm.2.2 _ _ h3
  have hi : (U.vm.classes.findIdx? fun (x : Class) => match x.kind with | .array component _ => component == comp | _ => false) = some c := by
    have b1 := va_idx_bare U.vm comp
    have b2 := va_idx_bare u.vm comp
    first | rw [hvm.bare_eq] at b1 | rw [← hvm.bare_eq] at b1
    exact b1.symm.trans (b2.trans h2)
  have hkind : k'.kind = .array comp (.array .long) := by rw [he]; exact h4
  have f1 : U.vm.findClass (FieldType.array .long).toString = some comp := by rw [hvm.findClass]; exact h1
  have f2 : U.vm.findClass ("[" ++ (FieldType.array .long).toString) = some c := by rw [hvm.findClass]; exact h5
  unfold Cond.before Cond.holds
  simp only [Cond.value]
  rw [f1, Option.bind_some]
  refine (congrArg (fun o : Option Nat => (o.bind (fun c => (U.vm.classes[c]?).map fun (k : Class) => match k.kind with | .array _ ty => decide (ty = FieldType.array .long) && decide (U.vm.findClass ("[" ++ (FieldType.array .long).toString) = some c) | _ => false) == some true)) hi).trans ?_
  simp [hk', hkind, f2]
theorem AOs.warm {s U : State} (hW : s.WarmedH U.vm) (h : AOs s) : AOs U := ⟨h.1.moved hW.alike, h.2.warm hW⟩
def CF (own : String) (cc : ByteArray) (nL : Nat) (p : Program) (s : State) (m : MethodId) (args : Array Value) (meth : Method) (c : Code) : Prop := p.tables.exec = Jvm.exec ∧ c.code = cc ∧ c.maxLocals = nL ∧ meth.sig.returnType = none ∧ meth.locks = false ∧ s.vm.findClass own = some m.cls ∧ (∀ w ∈ BG, w.before args s = true) ∧ NW s ∧ meth.name = "<init>"
def CoPre (D : va_G) (cy : Nat → ClassId) (a0 ci : Nat) (fs : List Value) (sz : Nat) : Array Value → State → Prop := va_Pc [.ref a0] (fun U => U.heap.size = sz ∧ va_K D vwCl (kty cLy cy) U ∧ va_P D vwCl [(a0, .inr (ci, fs))] U.heap ∧ NW U ∧ AOs U)
def CoPost (D : va_G) (X : (Nat → Nat) → va_W) (a0 ci : Nat) (fs : List Value) (sz : Nat) : Array Value → State → Outcome → State → Prop := fun _ st o t => (∃ ad : Nat → Nat, o = .returned none ∧ ad 0 = a0 ∧ va_P D vwCl (X ad) t.heap ∧ va_D (va_A [(a0, .inr (ci, fs))] sz) (X ad)) ∧ va_F (va_A [(a0, .inr (ci, fs))] sz) st t
abbrev CoMet (l : Launch) (D : va_G) (cy : Nat → ClassId) (y : MethodName) (cc : ByteArray) (nL : Nat) (rm : Room) (ci : Nat) (fs : List Value) (X : (Nat → Nat) → va_W) (nc ns : Nat) : Prop := ∀ a0 sz, Met l y (.code y cc nL none :: BG) rm (CoPre D cy a0 ci fs sz) (CoPost D X a0 ci fs sz) nc ns (va_A [(a0, .inr (ci, fs))] sz)
def rmc (d nc ns : Nat) : Room := { frames := d, cells := nc, slots := ns, locals := 60 * d }
theorem CoPre_blind {D : va_G} {cy : Nat → ClassId} {a0 ci sz : Nat} {fs : List Value} : FrameBlind (CoPre D cy a0 ci fs sz) := fun a U g mk q => by
  obtain ⟨q0, q1, qK, qP, qN, qA⟩ := q
  exact ⟨q0, q1, va_K.moved (u := U) (U := U.calling g mk a) (Vm.Alike.refl U.vm) qK, qP, va_Nw.same rfl rfl qN, AOr.moved (u := U) (U := U.calling g mk a) (Vm.Alike.refl U.vm) qA.1, NS.same (s := U) (U := U.calling g mk a) rfl qA.2⟩
section CON
variable {p : Program} {l : Launch} {e : Env} {R : Room} {s : State} {m : MethodId} {args : Array Value} {below : List Frame} {meth : Method} {c : Code} {H H0 : Heap} {locs : List Loc} {cells slots : Nat} {Q : State → Prop}
variable {cc : ByteArray} {pc nL : Nat} {ls : Array Slot} {rest : List Value} {D : va_G} {A : Nat → Prop} {ws : va_W} {cy : Nat → ClassId} {Ly : Lay} {own : String}
theorem Woi {idx a : Nat} (F : CF own cc nL p s m args meth c) (hl : ls.size = nL) (w : Cond.methodLink own idx objectInit ∈ BG) (hfr : 1 ≤ R.frames) (hlo : 12 ≤ R.locals) (hd : decode cc pc = .ok (.invokespecial idx, 3))
    (kk : W p l e R s m args below meth c H locs cells slots Q (F0 m (pc + 3) ls [])) : W p l e R s m args below meth c H locs cells slots Q (F0 m pc ls [.ref a]) := by
  obtain ⟨hx, hb, hml, hr, hlk, hown, hts, hN, hin⟩ := F
  exact W.objInit hx hb hown (hts _ w) (hts _ oi_i) (hts _ oi_c) rfl (by rw [hml]; exact hl) rfl hd hfr (by show 2 * 0 + 0 + 12 ≤ R.locals; omega) kk
theorem Wnewa {atype : ArrayType} {ty : FieldType} {i n : Nat} (F : CF own cc nL p s m args meth c) (harr : Cond.arrayClass (newarray.typeOf atype) ∈ BG) (hty : newarray.typeOf atype = ty) (hi : Ly.1[i]? = some ty) (hK : va_K D vwCl (kty Ly cy) s) (hP : va_P D vwCl ws H) (hD : va_D A ws) (hS : va_S A H0 H locs) (hA : ∀ q, H0.size ≤ q → A q)
    {a0 : vp_A} (ha : ∀ cA : ClassId, vp_cell cA a0 = arrV cA n (fun _ => defaultValue ty)) (hn : n < 2147483648) (hbytes : n * componentBytes ty ≤ 536870912) (hcells : cells + 1 ≤ R.cells) (hslots : slots + n ≤ R.slots) (hdg : decode cc pc = .ok (.newarray atype, 2))
    (kk : ∀ (q : Nat) (H1 : Heap), va_P D vwCl (ws ++ [(q, .inl (cy i, a0))]) H1 → va_D A (ws ++ [(q, .inl (cy i, a0))]) → va_S A H0 H1 locs → W p l e R s m args below meth c H1 locs (cells + 1) (slots + n) Q (F0 m (pc + 2) ls (.ref q :: rest))) : W p l e R s m args below meth c H locs cells slots Q (F0 m pc ls (iv (n : Int) :: rest)) := by
  obtain ⟨hx, hb, hml, hr, hlk, hown, hts, hN, hin⟩ := F
  refine va_newa hx hb (hts _ harr) hty hK hP hD hS hA ha (fun q => ?_) (by rw [i32cl (by omega) (by omega)]; omega) hbytes hcells hslots hdg (fun q cA H1 hK1 hP1 hD1 hS1 => ?_)
  · have := (i32lt ⟨by omega, by omega⟩ i32z).mp q
    omega
  · have h1 := (hK.2 i _ (kty_get hi)).2
    have h2 := (hK1.2 (kty Ly cy).length (cA, ty) (by rw [List.getElem?_append_right (Nat.le_refl _), Nat.sub_self]; rfl)).2
    have e := RA_un h1 h2
    subst e
    exact kk q H1 hP1 hD1 hS1
theorem Wputf {idx ci k a : Nat} {ty : FieldType} {v : Value} {fs : List Value} {tys : List (ClassId × FieldType)} (F : CF own cc nL p s m args meth c) (hf : FPF own idx ci k ty) (hK : va_K D vwCl tys s) (hP : va_P D vwCl ((a, .inr (ci, fs)) :: ws) H) (hD : va_D A ((a, .inr (ci, fs)) :: ws)) (hS : va_S A H0 H locs) (hn : narrow ty v = v) (hfit : fits ty v = true) (hl : k < fs.length) (hdg : decode cc pc = .ok (.putfield idx, 3))
    (kk : ∀ (H1 : Heap) (locs1 : List Loc), va_P D vwCl ((a, .inr (ci, fs.set k v)) :: ws) H1 → va_D A ((a, .inr (ci, fs.set k v)) :: ws) → va_S A H0 H1 locs1 → W p l e R s m args below meth c H1 locs1 cells slots Q (F0 m (pc + 3) ls rest)) : W p l e R s m args below meth c H locs cells slots Q (F0 m pc ls (v :: .ref a :: rest)) := by
  obtain ⟨hx, hb, hml, hr, hlk, hown, hts, hN, hin⟩ := F
  obtain ⟨C, T, N, ty0, g1, g2, g3, g4, g5, g6, g7, g8, g9⟩ := hf
  exact va_putF hx hb hts g3 ty0 g5 g6 hown hK hP hD hS 0 rfl g1 k g2 (hts _ g4) (fun _ q => q) g7 hin g8 g9 hn hfit hl hdg kk
theorem Wputn {idx ci k a : Nat} {ty : FieldType} {v : Value} {fs : List Value} {tys : List (ClassId × FieldType)} (F : CF own cc nL p s m args meth c) (hf : FP own idx ci k ty) (hK : va_K D vwCl tys s) (hP : va_P D vwCl ((a, .inr (ci, fs)) :: ws) H) (hD : va_D A ((a, .inr (ci, fs)) :: ws)) (hS : va_S A H0 H locs) (hn : narrow ty v = v) (hfit : fits ty v = true) (hl : k < fs.length) (hdg : decode cc pc = .ok (.putfield idx, 3))
    (kk : ∀ (H1 : Heap) (locs1 : List Loc), va_P D vwCl ((a, .inr (ci, fs.set k v)) :: ws) H1 → va_D A ((a, .inr (ci, fs.set k v)) :: ws) → va_S A H0 H1 locs1 → W p l e R s m args below meth c H1 locs1 cells slots Q (F0 m (pc + 3) ls rest)) : W p l e R s m args below meth c H locs cells slots Q (F0 m pc ls (v :: .ref a :: rest)) := by
  obtain ⟨hx, hb, hml, hr, hlk, hown, hts, hN, hin⟩ := F
  obtain ⟨C, T, N, ty0, g1, g2, g3, g4, g5, g6, g7, g9⟩ := hf
  exact va_put hx hb hts g3 ty0 g5 g6 hown hK hP hD hS 0 rfl g1 k g2 (hts _ g4) (fun _ q => q) g7 g9 hn hfit hl hdg kk
/-- an object comes: its constructor's world beside what there is -/
theorem Wsub {y : MethodName} {cc' : ByteArray} {nL' nc ns ci N idx idx2 : Nat} {rm : Room} {C : String} {T : u_T} {fs : List Value} {X : (Nat → Nat) → va_W} (F : CF own cc nL p s m args meth c) (hl : ls.size = nL) (hc : vwCl[ci]? = some (C, T, N)) (hin : ∀ w ∈ u_ws C T N, w ∈ BG) (ty : Nat → FieldType) (hty : ∀ k, k < N → parseFieldDescriptor (T k).2.2.1 = some (ty k)) (hfs : ∀ j, j < N → defaultValue (ty j) = vp_V fs j)
    (w1 : Cond.classLink own idx C ∈ BG) (w2 : Cond.instantiable C N ∈ BG) (w3 : Cond.initialized y.cls ∈ BG) (w3' : Cond.initialized C ∈ BG) (w4 : Cond.methodLink own idx2 y ∈ BG ∨ va_Nw (.methodLinkNest own idx2 y "RoofNet") s) (w5 : Cond.instanceMethod y ∈ BG) (w6 : Cond.code y cc' nL' none ∈ BG) (hyn : y.name = "<init>") (hyd : y.cls ≠ "java/lang/invoke/MethodHandle" ∧ y.cls ≠ "java/lang/invoke/VarHandle" ∧ (parseMethodDescriptor y.desc).map (fun d => d.parameters.length) = some 0)
    (hM : CoMet l D cy y cc' nL' rm ci fs X nc ns) (hrc : rm.cells = nc) (hrs : rm.slots = ns) (hrm : rm.frames + 1 ≤ R.frames ∧ 8 + (nL' + 11) + rm.locals ≤ R.locals) (hcells : cells + 1 + nc ≤ R.cells) (hslots : slots + N + ns ≤ R.slots) (hst : (rest.map fun v => v.category).sum + 1 ≤ 8)
    (hK : va_K D vwCl (kty cLy cy) s) (hAO : AOs s) (hP : va_P D vwCl ws H) (hD : va_D A ws) (hS : va_S A H0 H locs) (hA : ∀ q, H0.size ≤ q → A q) (d0 : decode cc pc = .ok (.new idx, 3)) (d3 : decode cc (pc + 3) = .ok (.dup, 1)) (d4 : decode cc (pc + 3 + 1) = .ok (.invokespecial idx2, 3))
    (kk : ∀ (ad : Nat → Nat) (H1 : Heap) (locs1 : List Loc), va_P D vwCl (ws ++ X ad) H1 → va_D A (ws ++ X ad) → va_S A H0 H1 locs1 → W p l e R s m args below meth c H1 locs1 (cells + 1 + nc) (slots + N + ns) Q (F0 m (pc + 3 + 1 + 3) ls (.ref (ad 0) :: rest))) : W p l e R s m args below meth c H locs cells slots Q (F0 m pc ls rest) := by
  have hF := F
  obtain ⟨hx, hb, hml, hr, hlk, hown, hts, hN, hinit⟩ := F
  refine va_new hx hb hts hin ty hty hown (hts _ w1) (hts _ w2) (hts _ w3') hK hP hD hS hA hc hfs (by omega) (by omega) d0 (fun q H1 hP1 hD1 hS1 => ?_)
  refine lv_dup hx hb d3 rfl ?_
  have hPq : va_P D vwCl [(q, .inr (ci, fs))] H1 := fun k x hx => hP1 (ws.length + k) x (by rw [List.getElem?_append_right (by omega), Nat.add_sub_cancel_left]; exact hx)
  have hAq : A q := hD1.2 ws.length (q, .inr (ci, fs)) (by rw [List.getElem?_append_right (Nat.le_refl _), Nat.sub_self]; rfl)
  have hql : q < H1.size := (hPq 0 _ rfl).lt
  have hpre : PreS s H1 (CoPre D cy q ci fs H1.size) (.ref q :: []) := ⟨CoPre_blind, fun U hU hW => ⟨rfl, by rw [hU], va_K.moved hW.alike hK, by rw [hU]; exact hPq, va_Nw.warmM hW hN, hAO.warm hW⟩⟩
  have hrm2 : 2 * (F0 m (pc + 3 + 1) ls (.ref q :: .ref q :: rest)).monitorRoom + ((.ref q :: rest : List Value).map fun v => v.category).sum ≤ 8 := by show 2 * 0 + (1 + (rest.map fun v => v.category).sum) ≤ 8; omega
  have hrun : va_Run p l e R s m args below meth c H1 locs (cells + 1) (slots + N) nc ns (F0 m (pc + 3 + 1) ls (.ref q :: .ref q :: rest)) (.ref q :: rest) (CoPost D X q ci fs H1.size (Value.ref q :: []).toArray) (va_A [(q, .inr (ci, fs))] H1.size) := by
    rcases w4 with w4 | w4
    · exact va_runI (b := q) ⟨hx, hb, hml, hown, hts⟩ (hM q H1.size) ⟨callB_of 0 hts (gdBG w6) rfl hrc hrs (hts _ w3) (hts _ w4) hyd hrm, hyn, hts _ w5⟩ hpre rfl rfl hl rfl hrm2 d4 ⟨hcells, hslots⟩
    · exact va_runIN (b := q) ⟨hx, hb, hml, hown, hts⟩ (hM q H1.size) ⟨va_cnB (host := "RoofNet") 0 hts (gdBG w6) rfl hrc hrs w4 (hts _ w3) hyd hrm, hyn, hts _ w5⟩ hpre rfl rfl hl rfl hrm2 d4 ⟨hcells, hslots⟩
  intro T0 hT XX
  obtain ⟨v, st₀, t, T', L, h0, X', hL, e1, e2, ⟨⟨ad, hv, ha0, hPx, hDx⟩, hz, hk⟩, stp⟩ := hrun T0 hT XX
  cases hv
  rw [h0] at hz hk
  have nA : ∀ x, x < H1.size → x ≠ q → ¬ va_A [(q, .inr (ci, fs))] H1.size x := fun x hx hne z => by
    rcases z with ⟨k, e, z⟩ | z
    · match k, z with
      | 0, z => cases z; exact hne rfl
      | k + 1, z => simp at z
    · omega
  have AA : ∀ x, va_A [(q, .inr (ci, fs))] H1.size x → A x := fun x z => by
    rcases z with ⟨k, e, z⟩ | z
    · match k, z with
      | 0, z => cases z; exact hAq
      | k + 1, z => simp at z
    · exact hA x (Nat.le_trans hS1.1 z)
  have hold : ∀ (k : Nat) (x : Nat × va_E), ws[k]? = some x → x.1 < H1.size ∧ x.1 ≠ q := fun k x hx => by
    have hx1 : (ws ++ [(q, .inr (ci, fs))])[k]? = some x := by rw [List.getElem?_append_left (List.getElem?_eq_some_iff.mp hx).1]; exact hx
    refine ⟨(hP1 k x hx1).lt, fun z => ?_⟩
    have := hD1.1 k ws.length x (q, .inr (ci, fs)) hx1 (by rw [List.getElem?_append_right (Nat.le_refl _), Nat.sub_self]; rfl) z
    have := (List.getElem?_eq_some_iff.mp hx).1
    omega
  obtain ⟨t2, a1, b1⟩ := kk ad T'.heap (locs ++ L) (va_P.app (fun k x hx => by
      obtain ⟨g1, g2⟩ := hold k x hx
      refine (hP1 k x (by rw [List.getElem?_append_left (List.getElem?_eq_some_iff.mp hx).1]; exact hx)).kept ?_
      rw [e1]
      exact hk x.1 g1 (nA x.1 g1 g2)) (by rw [e1]; exact hPx))
    (va_D.app hD (hDx.weaken (fun k x _ z => AA x.1 z)) (fun i j x y hxi hyj hxy => by
      obtain ⟨g1, g2⟩ := hold i x hxi
      exact nA x.1 g1 g2 (by rw [hxy]; exact hDx.2 j y hyj)))
    ⟨Nat.le_trans hS1.1 (by rw [e1]; exact hz), fun x h1 h2 => by
      rw [e1, hk x (Nat.lt_of_lt_of_le h1 hS1.1) (fun z => h2 (AA x z))]
      exact hS1.2.1 x h1 h2, fun x hx => by
      rcases List.mem_append.mp hx with z | z
      · exact hS1.2.2 x z
      · exact AA _ (hL x z)⟩ T' rfl X'
  refine ⟨t2, stp t2 ?_, b1⟩
  rw [ha0] at a1
  exact a1
/-- the end of a constructor -/
theorem Wret {a0 ci sz nc ns : Nat} {fs : List Value} {X : (Nat → Nat) → va_W} (F : CF own cc nL p s m args meth c) (ad : Nat → Nat) (h0 : ad 0 = a0) (hsz : s.heap.size = sz) (hP : va_P D vwCl (X ad) H) (hD : va_D (va_A [(a0, .inr (ci, fs))] sz) (X ad)) (hS : va_S (va_A [(a0, .inr (ci, fs))] sz) s.heap H locs) (hd : decode cc pc = .ok (.return_, 1)) : W p l e R s m args below meth c H locs nc ns (MQ below (CoPost D X a0 ci fs sz) args s nc ns (va_A [(a0, .inr (ci, fs))] sz)) (F0 m pc ls []) := by
  obtain ⟨hx, hb, hml, hr, hlk, hown, hts, hN, hin⟩ := F
  exact W.vret hx hb hr (fun t ht hW => ⟨⟨ad, rfl, h0, by rw [ht]; exact hP, hD⟩, hS.F ht⟩) hS.2.2 hd
/-- the entry of one -/
theorem CoMet.of {y : MethodName} {nc ns ci d : Nat} {fs : List Value} {X : (Nat → Nat) → va_W} (hy : plainFor y = true) (hyo : y.cls = own) (hyn : y.name = "<init>") (hnL : 1 ≤ nL)
    (body : ∀ (a0 : Nat) (p : Program) (e : Env) (s : State) (m : MethodId) (args : Array Value) (below : List Frame) (meth : Method) (c : Code) (ls : Array Slot), CF own cc nL p s m args meth c → lv_has ls nL [(0, .ref a0)] → va_K D vwCl (kty cLy cy) s → AOs s → va_P D vwCl [(a0, .inr (ci, fs))] s.heap → va_D (va_A [(a0, .inr (ci, fs))] s.heap.size) [(a0, .inr (ci, fs))] →
      W p l e (rmc d nc ns) s m args below meth c s.heap [] 0 0 (MQ below (CoPost D X a0 ci fs s.heap.size) args s nc ns (va_A [(a0, .inr (ci, fs))] s.heap.size)) (F0 m 0 ls [])) : CoMet l D cy y cc nL (rmc d nc ns) ci fs X nc ns := by
  intro a0 sz
  refine Met.ofWF (cc := cc) (maxL := nL) (ret := none) hy rfl ?_
  intro p e s m args below meth c s₁ B hml hv
  obtain ⟨rfl, hsz, hK, hP, hN, hAO⟩ := hv
  subst hsz
  have hts := atoms_spec (ws := .code y cc nL none :: BG) B.pre
  have hl := lv_entry ([.ref a0]) (n := nL) hnL
  rw [lg_entry_eq]
  generalize (lg_sl ([.ref a0]) ++ List.replicate (nL - (lg_sl ([.ref a0])).length) Slot.unset).toArray = ls at hl ⊢
  refine body a0 p e s m _ below meth c ls ⟨B.exec, B.bytes, hml, B.returns, B.notSynchronized, hyo ▸ findClass_of_methodNamed B.named, fun w hw => hts w (List.mem_cons_of_mem _ hw), hN, (name_of_methodNamed B.named B.method).1.trans hyn⟩ hl hK hAO hP ⟨fun i j x y hi hj _ => ?_, fun k q hk => va_A.in hk⟩
  have hi := (List.getElem?_eq_some_iff.mp hi).1
  have hj := (List.getElem?_eq_some_iff.mp hj).1
  simp at hi hj
  omega
end CON
