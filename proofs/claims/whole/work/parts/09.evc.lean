/-! Calls: a method's contract is Ev at its entry. -/
def entA : List Value → List (Option Value)
  | [] => []
  | v :: vs => some v :: ((if v.category = 2 then [none] else []) ++ entA vs)
def entL (as : List Value) (n : Nat) : List (Option Value) := entA as ++ List.replicate (n - (entA as).length) none
theorem entA_args {ad : Nat → Nat} : ∀ (as : List Value) (i j : Nat) (v : Value), (entA as)[i]? = some (some v) → (j + i, cv ad v) ∈ lv_args j (as.map (cv ad))
  | [], i, j, v, h => by simp [entA] at h
  | a :: as, 0, j, v, h => by
    simp only [entA, List.getElem?_cons_zero, Option.some.injEq] at h
    subst h
    simp [lv_args]
  | a :: as, i + 1, j, v, h => by
    simp only [entA, List.getElem?_cons_succ] at h
    simp only [List.map_cons, lv_args]
    apply List.mem_cons_of_mem
    rw [cv_cat]
    by_cases hc : a.category = 2
    · rw [if_pos hc] at h ⊢
      match i, h with
      | 0, h => simp at h
      | i + 1, h =>
        simp only [List.cons_append, List.nil_append, List.getElem?_cons_succ] at h
        have := entA_args (ad := ad) as i (j + 2) v h
        rw [show j + (i + 1 + 1) = j + 2 + i by omega]
        exact this
    · rw [if_neg hc] at h ⊢
      have := entA_args (ad := ad) as i (j + 1) v h
      rw [show j + (i + 1) = j + 1 + i by omega]
      exact this
theorem entA_len (ad : Nat → Nat) : ∀ as : List Value, (lg_sl (as.map (cv ad))).length = (entA as).length
  | [] => rfl
  | a :: as => by
    have ih := entA_len ad as
    simp only [lg_sl, List.map_cons, List.flatMap_cons, List.length_append, entA, List.length_cons, cv_cat] at ih ⊢
    by_cases hc : a.category = 2
    · simp only [hc, if_true, List.length_cons, List.length_nil] at ih ⊢
      omega
    · simp only [hc, if_false, List.length_cons, List.length_nil] at ih ⊢
      omega
theorem entL_lok {ad : Nat → Nat} {as : List Value} {n : Nat} (hn : (entA as).length ≤ n) : lok ad ((lg_sl (as.map (cv ad)) ++ List.replicate (n - (lg_sl (as.map (cv ad))).length) Slot.unset).toArray) n (entL as n) := by
  have h := lv_entry (as.map (cv ad)) (n := n) (by rw [entA_len]; exact hn)
  refine ⟨h.1, h.2.1, fun i v hv => ?_⟩
  have h2 : (entA as)[i]? = some (some v) := by
    unfold entL at hv
    by_cases hl : i < (entA as).length
    · rwa [List.getElem?_append_left hl] at hv
    · rw [List.getElem?_append_right (by omega)] at hv
      rw [List.getElem?_replicate] at hv
      split at hv <;> cases hv
  have := h.2.2 _ (entA_args (ad := ad) as i 0 v h2)
  rwa [show 0 + i = i by omega] at this
def rmd (d : Nat) : Room := { frames := d, cells := 0, slots := 0, locals := 60 * d }
def rA (Ly : Lay) (ad : Nat → Nat) : Nat → Prop := fun q => ∃ id, id < Ly.2.length ∧ q = ad id
def CPre (Ly : Lay) (D : va_G) (cy : Nat → ClassId) (ad : Nat → Nat) (h : Hp) (as : List Value) : Array Value → State → Prop := va_Pc (as.map (cv ad)) (fun U => va_K D vwCl (kty Ly cy) U ∧ va_P D vwCl (lws Ly cy ad h) U.heap ∧ va_D (fun _ => True) (lws Ly cy ad h) ∧ NW U)
def CPost (Ly : Lay) (D : va_G) (cy : Nat → ClassId) (ad : Nat → Nat) (Post : Pst) : Array Value → State → Outcome → State → Prop := fun _ st o t => (∃ v h', o = .returned (v.map (cv ad)) ∧ Post v h' ∧ va_P D vwCl (lws Ly cy ad h') t.heap) ∧ va_F (rA Ly ad) st t
theorem rA_D {Ly : Lay} {cy : Nat → ClassId} {ad : Nat → Nat} {h : Hp} {A : Nat → Prop} (hD : va_D A (lws Ly cy ad h)) : va_D (rA Ly ad) (lws Ly cy ad h) := by
  refine ⟨hD.1, fun k q hq => ?_⟩
  have hl := (List.getElem?_eq_some_iff.mp hq).1
  rw [lws_len] at hl
  rw [lws_get (List.getElem?_eq_getElem hl)] at hq
  cases hq
  exact ⟨k, hl, rfl⟩
theorem rA_A {Ly : Lay} {cy : Nat → ClassId} {ad : Nat → Nat} {h : Hp} {A : Nat → Prop} (hD : va_D A (lws Ly cy ad h)) (q : Nat) (hq : rA Ly ad q) : A q := by
  obtain ⟨id, hl, rfl⟩ := hq
  exact hD.2 id _ (lws_get (List.getElem?_eq_getElem hl))
theorem D_any {Ly : Lay} {cy : Nat → ClassId} {ad : Nat → Nat} {h h' : Hp} {A : Nat → Prop} (hD : va_D A (lws Ly cy ad h)) : va_D A (lws Ly cy ad h') := by
  have key : ∀ (k : Nat) (q : Nat × va_E), (lws Ly cy ad h')[k]? = some q → ∃ q0, (lws Ly cy ad h)[k]? = some q0 ∧ q0.1 = q.1 := fun k q hq => by
    have hl := (List.getElem?_eq_some_iff.mp hq).1
    rw [lws_len] at hl
    rw [lws_get (List.getElem?_eq_getElem hl)] at hq
    cases hq
    exact ⟨_, lws_get (List.getElem?_eq_getElem hl), rfl⟩
  refine ⟨fun i j x y hi hj hxy => ?_, fun k q hk => ?_⟩
  · obtain ⟨x0, h1, h2⟩ := key i x hi
    obtain ⟨y0, h3, h4⟩ := key j y hj
    exact hD.1 i j x0 y0 h1 h3 (h2.trans (hxy.trans h4.symm))
  · obtain ⟨q0, h1, h2⟩ := key k q hk
    rw [← h2]
    exact hD.2 k q0 h1
theorem Met.ofWF {l : Launch} {y : MethodName} {ws ws' : List Cond} {rm : Room} {Pc : Array Value → State → Prop} {Qc : Array Value → State → Outcome → State → Prop} {mc ms : Nat} {free : Addr → Prop} {cc : ByteArray} {maxL : Nat} {ret : Option FieldType}
    (hy : plainFor y = true) (hw : ws = Cond.code y cc maxL ret :: ws')
    (body : ∀ p e s m args below meth c s₁, BodyLoose p l y (headSpec ws rm) cc maxL ret e s m args below meth c s₁ → c.maxLocals = maxL → Pc args s →
      W p l e (headSpec ws rm).room s m args below meth c s.heap [] 0 0 (MQ below Qc args s mc ms free) (entryFrame m args maxL)) : Met l y ws rm Pc Qc mc ms free := by
  refine MetFree.of_bodySF (code := cc) (maxLocals := maxL) (ret := ret) hy ?_ ?_
  · intro args s m h hn
    obtain ⟨meth, c, h1, h2, h3, h4, h5, h6, -, -⟩ := Cond.code_spec hn (atoms_spec (ws := ws) h _ (by rw [hw]; exact List.mem_cons_self))
    exact ⟨meth, c, h1, h2, h3, h4, h5, h6⟩
  · intro p e s m args below meth c s₁ B hml hP _
    have hh0 : s₁.heap = s.heap := by rw [B.state]; rfl
    obtain ⟨t, a1, o, b1, b2, b3⟩ := body p e s m args below meth c s₁ B hml hP s₁ hh0 (Stand.of_body B)
    exact ⟨t, o, a1, b1, b2, ⟨b3.1, b3.2⟩⟩
theorem Ev.met {M : Mi} {d : Nat} {h : Hp} {Post : Pst} {as : List Value} {y : MethodName} (l : Launch) (D : va_G) (cy : Nat → ClassId) (ad : Nat → Nat) (hy : plainFor y = true) (ho : y.cls = M.2.1) (hn : (entA as).length ≤ M.2.2.2.1) (hE : Ev M d 0 (entL as M.2.2.2.1) [] h Post) : Met l y (.code y M.2.2.1 M.2.2.2.1 M.2.2.2.2 :: BG) (rmd d) (CPre M.1 D cy ad h as) (CPost M.1 D cy ad Post) 0 0 (rA M.1 ad) := by
  refine Met.ofWF (cc := M.2.2.1) (maxL := M.2.2.2.1) (ret := M.2.2.2.2) hy rfl ?_
  intro p e s m args below meth c s₁ B hml hv
  obtain ⟨rfl, hK, hP, hD, hN⟩ := hv
  have hts := atoms_spec (ws := .code y M.2.2.1 M.2.2.2.1 M.2.2.2.2 :: BG) B.pre
  rw [lg_entry_eq]
  exact hE p l e (rmd d) s m _ below meth c D cy ad (rA M.1 ad) (CPost M.1 D cy ad Post) ⟨B.exec, B.bytes, hml, B.returns, B.notSynchronized, ho ▸ findClass_of_methodNamed B.named, fun w hw => hts w (List.mem_cons_of_mem _ hw), hN, ⟨Nat.le_refl _, Nat.le_refl _⟩, hK, fun v h' t hp hW hP2 hF => ⟨⟨v, h', rfl, hp, hP2⟩, hF⟩⟩ s.heap [] _ ⟨hP, rA_D hD, va_S.rf, entL_lok hn⟩
theorem CPre_blind {Ly : Lay} {D : va_G} {cy : Nat → ClassId} {ad : Nat → Nat} {h : Hp} {as : List Value} : FrameBlind (CPre Ly D cy ad h as) := fun a U g mk q => by
  obtain ⟨q0, qK, qP, qD, qN⟩ := q
  exact ⟨q0, va_K.moved (u := U) (U := U.calling g mk a) (Vm.Alike.refl U.vm) qK, qP, qD, va_Nw.same rfl rfl qN⟩
section EVCALL
variable {p : Program} {l : Launch} {e : Env} {R : Room} {s : State} {m : MethodId} {args : Array Value} {below : List Frame} {meth : Method} {c : Code} {H : Heap} {locs : List Loc} {cells slots : Nat} {Q : State → Prop}
variable {pc : Nat} {lsA : Array Slot} {rest st0 : List Value} {a : Array Value} {A0 : Nat → Prop} {H0 : Heap}
/-- behind a call -/
theorem ev_back {Ly : Lay} {D : va_G} {cy : Nat → ClassId} {ad : Nat → Nat} {Post' : Pst} {h : Hp} (hr : va_Run p l e R s m args below meth c H locs cells slots 0 0 (F0 m pc lsA st0) rest (CPost Ly D cy ad Post' a) (rA Ly ad)) (hS : va_S A0 H0 H locs) (hD : va_D A0 (lws Ly cy ad h))
    (kk : ∀ (v : Option Value) (h' : Hp) (H1 : Heap) (locs1 : List Loc), Post' v h' → va_P D vwCl (lws Ly cy ad h') H1 → va_D A0 (lws Ly cy ad h') → va_S A0 H0 H1 locs1 → W p l e R s m args below meth c H1 locs1 cells slots Q (F0 m (pc + 3) lsA ((v.map (cv ad)).toList ++ rest))) : W p l e R s m args below meth c H locs cells slots Q (F0 m pc lsA st0) := by
  intro T hT X
  obtain ⟨v, st₀, t, T', L, h0, X', hL, e1, e2, ⟨⟨v', h', hv, hp, hP⟩, hz, hk⟩, stp⟩ := hr T hT X
  cases hv
  rw [h0] at hz hk
  obtain ⟨t2, a1, b1⟩ := kk v' h' T'.heap (locs ++ L) hp (by rw [e1]; exact hP) (D_any hD)
    ⟨Nat.le_trans hS.1 (by rw [e1]; exact hz), fun q h1 h2 => by rw [e1, hk q (Nat.lt_of_lt_of_le h1 hS.1) (fun z => h2 (rA_A hD q z))]; exact hS.2.1 q h1 h2, fun q hq => by
      rcases List.mem_append.mp hq with h | h
      · exact hS.2.2 q h
      · exact rA_A hD _ (hL q h)⟩ T' rfl X'
  exact ⟨t2, stp t2 a1, b1⟩
end EVCALL
/-- the words of a call: by the receiver; static -/
def CWv (own : String) (idx : Nat) (y : MethodName) (M' : Mi) (n : Nat) : Prop := Cond.methodLink own idx y ∈ BG ∧ Cond.instanceMethod y ∈ BG ∧ Cond.selects y.cls y y ∈ BG ∧ Cond.initialized y.cls ∈ BG ∧ Cond.code y M'.2.2.1 M'.2.2.2.1 M'.2.2.2.2 ∈ BG ∧ y.cls = M'.2.1 ∧ plainFor y = true ∧ (y.cls ≠ "java/lang/invoke/MethodHandle" ∧ y.cls ≠ "java/lang/invoke/VarHandle" ∧ (parseMethodDescriptor y.desc).map (fun d => d.parameters.length) = some n) ∧ M'.2.2.2.1 ≤ 30
def CWs (own : String) (idx : Nat) (y : MethodName) (M' : Mi) (n : Nat) : Prop := Cond.methodLink own idx y ∈ BG ∧ Cond.static y ∈ BG ∧ Cond.initialized y.cls ∈ BG ∧ Cond.code y M'.2.2.1 M'.2.2.2.1 M'.2.2.2.2 ∈ BG ∧ y.cls = M'.2.1 ∧ plainFor y = true ∧ (y.cls ≠ "java/lang/invoke/MethodHandle" ∧ y.cls ≠ "java/lang/invoke/VarHandle" ∧ (parseMethodDescriptor y.desc).map (fun d => d.parameters.length) = some n) ∧ M'.2.2.2.1 ≤ 30
theorem cv_sum (ad : Nat → Nat) (st : List Value) : ((st.map (cv ad)).map fun v => v.category).sum = (st.map fun v => v.category).sum := by
  congr 1
  rw [List.map_map]
  apply List.map_congr_left
  intro v _
  exact cv_cat ad v
section EVC2
variable {M : Mi} {d pc pc' : Nat} {ls : List (Option Value)} {h : Hp} {Post : Pst}
theorem Ev.callV {M' : Mi} {y : MethodName} {idx id n ci d' : Nat} {ks : List Nat} {T : u_T} {N : Nat} {as st rest : List Value} {Post' : Pst} (hs : st = as.reverse ++ .ref id :: rest) (hd : decode M.2.2.1 pc = .ok (.invokevirtual idx, 3)) (hn : pc + 3 = pc') (hw : CWv M.2.1 idx y M' n) (hna : as.length = n) (hne : (entA (.ref id :: as)).length ≤ M'.2.2.2.1) (hdd : d' + 1 ≤ d) (hy : M.1.2[id]? = some (.inl (ci, ks))) (hcl : vwCl[ci]? = some (y.cls, T, N)) (hly : M'.1 = M.1) (hst : (rest.map fun v => v.category).sum ≤ 8)
    (hE : Ev M' d' 0 (entL (.ref id :: as) M'.2.2.2.1) [] h Post') (kk : ∀ v h', Post' v h' → Ev M d pc' ls (v.toList ++ rest) h' Post) : Ev M d pc ls st h Post := by
  subst hn
  subst hs
  intro p l e R s m args below meth c D cy ad A Qc F H locs lsA X
  have hF := F
  obtain ⟨fx, fb, fml, fr, flk, fown, fts, fN, fR, fK, fQ⟩ := F
  obtain ⟨w1, w2, w3, w4, w5, w6, w7, w8, w9⟩ := hw
  have hM := Ev.met (y := y) l D cy ad w7 w6 hne hE
  rw [hly] at hM
  have hrun := va_runV (p := p) (e := e) (R := R) (s := s) (m := m) (args := args) (below := below) (meth := meth) (c := c) (H := H) (locs := locs) (cells := R.cells) (slots := R.slots) (As := as.map (cv ad)) (rest := rest.map (cv ad)) (b := ad id) (g := F0 m pc lsA ((as.reverse ++ .ref id :: rest).map (cv ad))) ⟨fx, fb, fml, fown, fts⟩ hM
    ⟨callB_of n fts (gdBG w5) rfl rfl rfl (fts _ w4) (fts _ w1) w8 ⟨Nat.le_trans hdd fR.1, Nat.le_trans (by show 8 + (M'.2.2.2.1 + 11) + 60 * d' ≤ 60 * d; omega) fR.2⟩, fts _ w2, fts _ w3⟩
    ⟨CPre_blind, va_recv fK X.1 hcl (lws_get hy), fun U hU hW => ⟨rfl, va_K.moved hW.alike fK, by rw [hU]; exact X.1, X.2.1.weaken (fun _ _ _ _ => trivial), va_Nw.warmM hW fN⟩⟩ rfl (by rw [List.length_map]; exact hna) X.2.2.2.1 (by simp [List.map_reverse, cv]) (lv_room (by rw [cv_sum]; exact hst)) hd ⟨Nat.le_refl _, Nat.le_refl _⟩
  refine ev_back hrun X.2.2.1 X.2.1 (fun v h' H1 locs1 hp hP hD hS => ?_)
  have := kk v h' hp p l e R s m args below meth c D cy ad A Qc hF H1 locs1 lsA ⟨hP, hD, hS, X.2.2.2⟩
  rw [List.map_append] at this
  cases v <;> exact this
theorem Ev.callS {M' : Mi} {y : MethodName} {idx n d' : Nat} {as st rest : List Value} {Post' : Pst} (hs : st = as.reverse ++ rest) (hd : decode M.2.2.1 pc = .ok (.invokestatic idx, 3)) (hn : pc + 3 = pc') (hw : CWs M.2.1 idx y M' n) (hna : as.length = n) (hne : (entA as).length ≤ M'.2.2.2.1) (hdd : d' + 1 ≤ d) (hly : M'.1 = M.1) (hst : (rest.map fun v => v.category).sum ≤ 8)
    (hE : Ev M' d' 0 (entL as M'.2.2.2.1) [] h Post') (kk : ∀ v h', Post' v h' → Ev M d pc' ls (v.toList ++ rest) h' Post) : Ev M d pc ls st h Post := by
  subst hn
  subst hs
  intro p l e R s m args below meth c D cy ad A Qc F H locs lsA X
  have hF := F
  obtain ⟨fx, fb, fml, fr, flk, fown, fts, fN, fR, fK, fQ⟩ := F
  obtain ⟨w1, w2, w4, w5, w6, w7, w8, w9⟩ := hw
  have hM := Ev.met (y := y) l D cy ad w7 w6 hne hE
  rw [hly] at hM
  have hrun := va_runS (p := p) (e := e) (R := R) (s := s) (m := m) (args := args) (below := below) (meth := meth) (c := c) (H := H) (locs := locs) (cells := R.cells) (slots := R.slots) (As := as.map (cv ad)) (rest := rest.map (cv ad)) (g := F0 m pc lsA ((as.reverse ++ rest).map (cv ad))) ⟨fx, fb, fml, fown, fts⟩ hM
    ⟨callB_of n fts (gdBG w5) rfl rfl rfl (fts _ w4) (fts _ w1) w8 ⟨Nat.le_trans hdd fR.1, Nat.le_trans (by show 8 + (M'.2.2.2.1 + 11) + 60 * d' ≤ 60 * d; omega) fR.2⟩, fts _ w2⟩
    ⟨CPre_blind, fun U hU hW => ⟨rfl, va_K.moved hW.alike fK, by rw [hU]; exact X.1, X.2.1.weaken (fun _ _ _ _ => trivial), va_Nw.warmM hW fN⟩⟩ rfl (by rw [List.length_map]; exact hna) X.2.2.2.1 (by simp [List.map_reverse]) (lv_room (by rw [cv_sum]; exact hst)) hd ⟨Nat.le_refl _, Nat.le_refl _⟩
  refine ev_back hrun X.2.2.1 X.2.1 (fun v h' H1 locs1 hp hP hD hS => ?_)
  have := kk v h' hp p l e R s m args below meth c D cy ad A Qc hF H1 locs1 lsA ⟨hP, hD, hS, X.2.2.2⟩
  rw [List.map_append] at this
  cases v <;> exact this
/-- the one call of a nest mate's private method: RoofNet.isWithin out of Net -/
theorem Ev.callN {M' : Mi} {d' : Nat} {as st rest : List Value} {Post' : Pst} (hs : st = as.reverse ++ rest) (hd : decode M.2.2.1 pc = .ok (.invokestatic 65, 3)) (hn : pc + 3 = pc') (ho : M.2.1 = RX2) (hw : Cond.static yX7_isWithin ∈ BG ∧ Cond.initialized RX7 ∈ BG ∧ Cond.code yX7_isWithin M'.2.2.1 M'.2.2.2.1 M'.2.2.2.2 ∈ BG ∧ RX7 = M'.2.1 ∧ M'.2.2.2.1 ≤ 30) (hna : as.length = 3) (hne : (entA as).length ≤ M'.2.2.2.1) (hdd : d' + 1 ≤ d) (hly : M'.1 = M.1) (hst : (rest.map fun v => v.category).sum ≤ 8)
    (hE : Ev M' d' 0 (entL as M'.2.2.2.1) [] h Post') (kk : ∀ v h', Post' v h' → Ev M d pc' ls (v.toList ++ rest) h' Post) : Ev M d pc ls st h Post := by
  subst hn
  subst hs
  intro p l e R s m args below meth c D cy ad A Qc F H locs lsA X
  have hF := F
  obtain ⟨fx, fb, fml, fr, flk, fown, fts, fN, fR, fK, fQ⟩ := F
  obtain ⟨w2, w4, w5, w6, w9⟩ := hw
  rw [ho] at fown
  have hM := Ev.met (y := yX7_isWithin) l D cy ad (by decide) w6 hne hE
  rw [hly] at hM
  have hrun := va_runSN (p := p) (e := e) (R := R) (s := s) (m := m) (args := args) (below := below) (meth := meth) (c := c) (H := H) (locs := locs) (cells := R.cells) (slots := R.slots) (As := as.map (cv ad)) (rest := rest.map (cv ad)) (g := F0 m pc lsA ((as.reverse ++ rest).map (cv ad))) ⟨fx, fb, fml, fown, fts⟩ hM
    ⟨va_cnB (host := "RoofNet") 3 fts (gdBG w5) rfl rfl rfl fN (fts _ w4) (by decide +kernel) ⟨Nat.le_trans hdd fR.1, Nat.le_trans (by show 8 + (M'.2.2.2.1 + 11) + 60 * d' ≤ 60 * d; omega) fR.2⟩, fts _ w2, trivial⟩
    ⟨CPre_blind, fun U hU hW => ⟨rfl, va_K.moved hW.alike fK, by rw [hU]; exact X.1, X.2.1.weaken (fun _ _ _ _ => trivial), va_Nw.warmM hW fN⟩⟩ rfl (by rw [List.length_map]; exact hna) X.2.2.2.1 (by simp [List.map_reverse]) (lv_room (by rw [cv_sum]; exact hst)) hd ⟨Nat.le_refl _, Nat.le_refl _⟩
  refine ev_back hrun X.2.2.1 X.2.1 (fun v h' H1 locs1 hp hP hD hS => ?_)
  have := kk v h' hp p l e R s m args below meth c D cy ad A Qc hF H1 locs1 lsA ⟨hP, hD, hS, X.2.2.2⟩
  rw [List.map_append] at this
  cases v <;> exact this
end EVC2
