/-! Regions seen from outside: a call into one, a constructor that makes one. -/
section RGC
variable {p : Program} {l : Launch} {e : Env} {R : Room} {s : State} {m : MethodId} {args : Array Value} {below : List Frame} {meth : Method} {c : Code} {H : Heap} {locs : List Loc} {cells slots : Nat} {Q : State → Prop}
variable {cc : ByteArray} {pc nL : Nat} {ls : Array Slot} {rest st : List Value} {A : Nat → Prop} {H0 : Heap} {own : String} {D : va_G} {cy : Nat → ClassId} {ad : Nat → Nat} {h : Hp}
theorem rgV {M' : Mi} {y : MethodName} {idx id n ci d' : Nat} {ks : List Nat} {T : u_T} {N : Nat} {as : List Value} {Post' : Pst} (hx : p.tables.exec = Jvm.exec) (hb : c.code = cc) (hml : c.maxLocals = nL) (hown : s.vm.findClass own = some m.cls) (hts : ∀ w ∈ BG, w.before args s = true) (hN : NW s) (hl : ls.size = nL) (hw : CWv own idx y M' n) (hna : as.length = n) (hne : (entA (.ref id :: as)).length ≤ M'.2.2.2.1) (hR : d' + 1 ≤ R.frames ∧ 60 * (d' + 1) ≤ R.locals) (hc : cells ≤ R.cells ∧ slots ≤ R.slots) (hy : M'.1.2[id]? = some (.inl (ci, ks))) (hcl : vwCl[ci]? = some (y.cls, T, N)) (hst : (rest.map fun v => v.category).sum ≤ 8) (hs : st = (as.map (cv ad)).reverse ++ .ref (ad id) :: rest) (hK : va_K D vwCl (kty M'.1 cy) s) (hP : va_P D vwCl (lws M'.1 cy ad h) H) (hD : va_D A (lws M'.1 cy ad h)) (hS : va_S A H0 H locs) (hd : decode cc pc = .ok (.invokevirtual idx, 3)) (hE : Ev M' d' 0 (entL (.ref id :: as) M'.2.2.2.1) [] h Post')
    (kk : ∀ (v : Option Value) (h' : Hp) (H1 : Heap) (locs1 : List Loc), Post' v h' → va_P D vwCl (lws M'.1 cy ad h') H1 → va_D A (lws M'.1 cy ad h') → va_S A H0 H1 locs1 → H.size ≤ H1.size → (∀ q : Nat, q < H.size → ¬ rA M'.1 ad q → H1[q]? = H[q]?) → W p l e R s m args below meth c H1 locs1 cells slots Q (F0 m (pc + 3) ls ((v.map (cv ad)).toList ++ rest))) : W p l e R s m args below meth c H locs cells slots Q (F0 m pc ls st) := by
  obtain ⟨w1, w2, w3, w4, w5, w6, w7, w8, w9⟩ := hw
  have hM := Ev.met (y := y) l D cy ad w7 w6 hne hE
  have hr := va_runV (p := p) (e := e) (R := R) (s := s) (m := m) (args := args) (below := below) (meth := meth) (c := c) (H := H) (locs := locs) (cells := cells) (slots := slots) (As := as.map (cv ad)) (rest := rest) (b := ad id) (g := F0 m pc ls st) ⟨hx, hb, hml, hown, hts⟩ hM
    ⟨callB_of n hts (gdBG w5) rfl rfl rfl (hts _ w4) (hts _ w1) w8 ⟨hR.1, Nat.le_trans (by show 8 + (M'.2.2.2.1 + 11) + 60 * d' ≤ 60 * (d' + 1); omega) hR.2⟩, hts _ w2, hts _ w3⟩
    ⟨CPre_blind, va_recv hK hP hcl (lws_get hy), fun U hU hW => ⟨rfl, va_K.moved hW.alike hK, by rw [hU]; exact hP, hD.weaken (fun _ _ _ _ => trivial), va_Nw.warmM hW hN⟩⟩ rfl (by rw [List.length_map]; exact hna) hl hs (lv_room hst) hd hc
  intro T hT X
  obtain ⟨v, st₀, t, T', L, h0, X', hL, e1, e2, ⟨⟨v', h', hv, hp, hP1⟩, hz, hk⟩, stp⟩ := hr T hT X
  cases hv
  rw [h0] at hz hk
  obtain ⟨t2, a1, b1⟩ := kk v' h' T'.heap (locs ++ L) hp (by rw [e1]; exact hP1) (D_any hD)
    ⟨Nat.le_trans hS.1 (by rw [e1]; exact hz), fun q h1 h2 => by rw [e1, hk q (Nat.lt_of_lt_of_le h1 hS.1) (fun z => h2 (rA_A hD q z))]; exact hS.2.1 q h1 h2, fun q hq => by
      rcases List.mem_append.mp hq with h | h
      · exact hS.2.2 q h
      · exact rA_A hD _ (hL q h)⟩ (by rw [e1]; exact hz) (fun q h1 h2 => by rw [e1]; exact hk q h1 h2) T' rfl X'
  exact ⟨t2, stp t2 a1, b1⟩
end RGC
theorem D_perm {A : Nat → Prop} {ws ws' : va_W} (hD : va_D A ws) (is : List Nat) (hn : va_nd is = true) (hs : is.map (fun i => (ws[i]?).map Prod.fst) = ws'.map (fun x => some x.1)) : va_D A ws' := by
  have key : ∀ (k : Nat) (q : Nat × va_E), ws'[k]? = some q → ∃ (i : Nat) (q0 : Nat × va_E), is[k]? = some i ∧ ws[i]? = some q0 ∧ q0.1 = q.1 := by
    intro k q hk
    have h1 : (is.map (fun i => (ws[i]?).map Prod.fst))[k]? = some (some q.1) := by rw [hs, List.getElem?_map, hk]; rfl
    rw [List.getElem?_map] at h1
    cases hi : is[k]? with
    | none => rw [hi] at h1; cases h1
    | some i =>
      rw [hi] at h1
      simp only [Option.map_some, Option.some.injEq] at h1
      cases hw : ws[i]? with
      | none => rw [hw] at h1; cases h1
      | some q0 =>
        rw [hw] at h1
        simp only [Option.map_some, Option.some.injEq] at h1
        exact ⟨i, q0, rfl, hw, h1⟩
  refine ⟨fun i j x y hi hj hxy => ?_, fun k q hk => ?_⟩
  · obtain ⟨i1, x0, a1, a2, a3⟩ := key i x hi
    obtain ⟨j1, y0, b1, b2, b3⟩ := key j y hj
    have e := hD.1 i1 j1 x0 y0 a2 b2 (by rw [a3, b3]; exact hxy)
    subst e
    exact va_nd_inj is hn i j i1 a1 b1
  · obtain ⟨i1, x0, a1, a2, a3⟩ := key k q hk
    rw [← a3]
    exact hD.2 i1 x0 a2
theorem P_of {D : va_G} {Ly : Lay} {cy : Nat → ClassId} {ad : Nat → Nat} {h : Hp} {H : Heap} (q : ∀ id, id < Ly.2.length → ∃ d, Ly.2[id]? = some d ∧ va_at D vwCl (ad id, lce Ly.1 cy ad h id d) H) : va_P D vwCl (lws Ly cy ad h) H := fun k x hk => by
  have hl : k < Ly.2.length := by
    have := (List.getElem?_eq_some_iff.mp hk).1
    rwa [lws_len] at this
  obtain ⟨d, h1, h2⟩ := q k hl
  rw [lws_get h1] at hk
  cases hk
  exact h2
/-- a constructor that makes a region -/
def RgPre (Ly : Lay) (E : (Nat → Prop) → State → Prop) (D : va_G) (cy : Nat → ClassId) (a0 ci : Nat) (fs : List Value) (sz : Nat) : Array Value → State → Prop := va_Pc [.ref a0] (fun U => U.heap.size = sz ∧ va_K D vwCl (kty Ly cy) U ∧ va_P D vwCl [(a0, .inr (ci, fs))] U.heap ∧ NW U ∧ AOs U ∧ E (va_A [(a0, .inr (ci, fs))] sz) U)
def RgPost (Ly : Lay) (D : va_G) (cy : Nat → ClassId) (Good : Hp → Prop) (a0 ci : Nat) (fs : List Value) (sz : Nat) : Array Value → State → Outcome → State → Prop := fun _ st o t => (∃ (ad : Nat → Nat) (h : Hp), o = .returned none ∧ ad 0 = a0 ∧ Good h ∧ va_P D vwCl (lws Ly cy ad h) t.heap ∧ va_D (va_A [(a0, .inr (ci, fs))] sz) (lws Ly cy ad h)) ∧ va_F (va_A [(a0, .inr (ci, fs))] sz) st t
abbrev RgMet (l : Launch) (Ly : Lay) (E : (Nat → Prop) → State → Prop) (Good : Hp → Prop) (D : va_G) (cy : Nat → ClassId) (y : MethodName) (cc : ByteArray) (nL : Nat) (rm : Room) (ci : Nat) (fs : List Value) (nc ns : Nat) : Prop := ∀ a0 sz, Met l y (.code y cc nL none :: BG) rm (RgPre Ly E D cy a0 ci fs sz) (RgPost Ly D cy Good a0 ci fs sz) nc ns (va_A [(a0, .inr (ci, fs))] sz)
def EBl (E : (Nat → Prop) → State → Prop) : Prop := ∀ (A : Nat → Prop) (U V : State), U.vm = V.vm → U.heap = V.heap → E A U → E A V
theorem RgPre_blind {Ly : Lay} {E : (Nat → Prop) → State → Prop} {D : va_G} {cy : Nat → ClassId} {a0 ci sz : Nat} {fs : List Value} (hE : EBl E) : FrameBlind (RgPre Ly E D cy a0 ci fs sz) := fun a U g mk q => by
  obtain ⟨q0, q1, qK, qP, qN, qA, qE⟩ := q
  exact ⟨q0, q1, va_K.moved (u := U) (U := U.calling g mk a) (Vm.Alike.refl U.vm) qK, qP, va_Nw.same rfl rfl qN, ⟨AOr.moved (u := U) (U := U.calling g mk a) (Vm.Alike.refl U.vm) qA.1, NS.same (s := U) (U := U.calling g mk a) rfl qA.2⟩, hE _ U (U.calling g mk a) rfl rfl qE⟩
theorem RgMet.of {l : Launch} {Ly : Lay} {E : (Nat → Prop) → State → Prop} {Good : Hp → Prop} {D : va_G} {cy : Nat → ClassId} {own : String} {cc : ByteArray} {nL : Nat} {y : MethodName} {nc ns ci d : Nat} {fs : List Value} (hy : plainFor y = true) (hyo : y.cls = own) (hyn : y.name = "<init>") (hnL : 1 ≤ nL)
    (body : ∀ (a0 : Nat) (p : Program) (e : Env) (s : State) (m : MethodId) (args : Array Value) (below : List Frame) (meth : Method) (c : Code) (ls : Array Slot), CF own cc nL p s m args meth c → lv_has ls nL [(0, .ref a0)] → va_K D vwCl (kty Ly cy) s → AOs s → E (va_A [(a0, .inr (ci, fs))] s.heap.size) s → va_P D vwCl [(a0, .inr (ci, fs))] s.heap → va_D (va_A [(a0, .inr (ci, fs))] s.heap.size) [(a0, .inr (ci, fs))] →
      W p l e (rmc d nc ns) s m args below meth c s.heap [] 0 0 (MQ below (RgPost Ly D cy Good a0 ci fs s.heap.size) args s nc ns (va_A [(a0, .inr (ci, fs))] s.heap.size)) (F0 m 0 ls [])) : RgMet l Ly E Good D cy y cc nL (rmc d nc ns) ci fs nc ns := by
  intro a0 sz
  refine Met.ofWF (cc := cc) (maxL := nL) (ret := none) hy rfl ?_
  intro p e s m args below meth c s₁ B hml hv
  obtain ⟨rfl, hsz, hK, hP, hN, hAO, hE⟩ := hv
  subst hsz
  have hts := atoms_spec (ws := .code y cc nL none :: BG) B.pre
  have hl := lv_entry ([.ref a0]) (n := nL) hnL
  rw [lg_entry_eq]
  generalize (lg_sl ([.ref a0]) ++ List.replicate (nL - (lg_sl ([.ref a0])).length) Slot.unset).toArray = ls at hl ⊢
  refine body a0 p e s m _ below meth c ls ⟨B.exec, B.bytes, hml, B.returns, B.notSynchronized, hyo ▸ findClass_of_methodNamed B.named, fun w hw => hts w (List.mem_cons_of_mem _ hw), hN, (name_of_methodNamed B.named B.method).1.trans hyn⟩ hl hK hAO hE hP ⟨fun i j x y hi hj _ => ?_, fun k q hk => va_A.in hk⟩
  have hi := (List.getElem?_eq_some_iff.mp hi).1
  have hj := (List.getElem?_eq_some_iff.mp hj).1
  simp at hi hj
  omega
/-- the tail of one, as a walk -/
theorem Ev.tail {M : Mi} {dp pc : Nat} {lsv : List (Option Value)} {st : List Value} {h : Hp} {Post : Pst} {Good : Hp → Prop} {p : Program} {l : Launch} {e : Env} {s : State} {m : MethodId} {args : Array Value} {below : List Frame} {meth : Method} {c : Code} {H : Heap} {locs : List Loc} {ls : Array Slot} {D : va_G} {cy ad : Nat → Nat} {a0 ci nc ns d : Nat} {fs : List Value} (hr0 : M.2.2.2.2 = none) (F : CF M.2.1 M.2.2.1 M.2.2.2.1 p s m args meth c) (hdp : dp ≤ d) (hE : Ev M dp pc lsv st h Post) (hg : ∀ v h', Post v h' → v = none ∧ Good h') (h0 : ad 0 = a0) (hK : va_K D vwCl (kty M.1 cy) s) (hP : va_P D vwCl (lws M.1 cy ad h) H) (hD : va_D (va_A [(a0, .inr (ci, fs))] s.heap.size) (lws M.1 cy ad h)) (hS : va_S (va_A [(a0, .inr (ci, fs))] s.heap.size) s.heap H locs) (hl : lok ad ls M.2.2.2.1 lsv) : W p l e (rmc d nc ns) s m args below meth c H locs nc ns (MQ below (RgPost M.1 D cy Good a0 ci fs s.heap.size) args s nc ns (va_A [(a0, .inr (ci, fs))] s.heap.size)) (F0 m pc ls (st.map (cv ad))) := by
  obtain ⟨hx, hb, hml, hr, hlk, hown, hts, hN, hin⟩ := F
  refine hE p l e (rmc d nc ns) s m args below meth c D cy ad (va_A [(a0, .inr (ci, fs))] s.heap.size) (RgPost M.1 D cy Good a0 ci fs s.heap.size) ⟨hx, hb, hml, by rw [hr0]; exact hr, hlk, hown, hts, hN, ⟨hdp, Nat.mul_le_mul_left 60 hdp⟩, hK, fun v h' t hp hW hP2 hF => ?_⟩ H locs ls ⟨hP, hD, hS, hl⟩
  obtain ⟨rfl, hgood⟩ := hg v h' hp
  exact ⟨⟨ad, h', rfl, h0, hgood, hP2, D_any hD⟩, hF⟩
