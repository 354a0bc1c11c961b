/-! An array of five arrays of eight longs comes: one instruction of the machine. -/
section MUL
variable {E : CtlPost} {e : Env} {d : Bool} {acts : List Action} {s : State}
/-- one array comes -/
theorem mu_one {c comp : ClassId} {k : Class} {ty : FieldType} {n : Nat} {z : Value} (hk : s.vm.classes[c]? = some k) (hkd : k.kind = .array comp ty) (h1 : ¬ n > e.platform.arrayLengthLimit) (h2 : ¬ n * componentBytes ty > e.platform.maxHeapBytes) (hf : fits ty z = true) (hz : z.isDefault = true) {Q : Addr → Pre} (r1 : s.heap.size < e.platform.maxCells) (r2 : s.slotsUsed + n ≤ e.platform.maxSlots) (hq : Q s.heap.size d acts (s.pushCell (arrV c n (fun _ => z)))) : wp (Jvm.newArray c n z) Q E e d acts s := by
  have hac : allocActs (Array.replicate n z) s.heap.size acts = acts := by
    unfold allocActs
    rw [if_pos (by rw [Array.all_replicate]; split <;> simp [hz])]
  have hfs : ∀ i v, (Array.replicate n z)[i]? = some v → s.fitsSlot c .none i v = true := fun i v hv => by
    have hv2 := hv
    rw [Array.getElem?_replicate] at hv2
    split at hv2
    · cases hv2
      simp [State.fitsSlot, State.slotType?, hk, hkd, hf]
    · cases hv2
  rw [← arrV_new] at hq
  simp only [Jvm.newArray, Jvm.arrayFits, wp_bind', W.ask, W.ite, h1, if_false, wp_pure', W.theClass, hk, hkd, h2, W.alloc, W.stop, Option.some.injEq, exists_eq_left', Array.size_replicate, hac]
  rw [if_neg (by omega)]
  exact ⟨r1, r2, hfs, hq⟩
/-- the outer row when i inner ones have come -/
abbrev muO (cA : ClassId) (h0 i : Nat) : Cell := arrV cA 5 (fun j => if j < i then .ref (h0 + 1 + j) else .null)
abbrev muI (cI : ClassId) : Cell := arrV cI 8 (fun _ => .long 0)
def muS (s : State) (cA cI : ClassId) : Nat → State
  | 0 => s.pushCell (muO cA s.heap.size 0)
  | i + 1 => ((muS s cA cI i).pushCell (muI cI)).setCell s.heap.size (muO cA s.heap.size (i + 1))
theorem muO_set {cA : ClassId} {h0 i : Nat} : (muO cA h0 i).setSlot i (.ref (h0 + 1 + i)) = muO cA h0 (i + 1) := by
  rw [muO, arrV_store]
  congr 1
  funext j
  unfold updV
  by_cases q : j = i
  · rw [if_pos q, q, if_pos (by omega)]
  · rw [if_neg q]
    show (if j < i then Value.ref (h0 + 1 + j) else Value.null) = _
    by_cases l : j < i
    · rw [if_pos l, if_pos (by omega)]
    · rw [if_neg l, if_neg (by omega)]
theorem mu_facts (s : State) (cA cI : ClassId) : ∀ i, (muS s cA cI i).heap.size = s.heap.size + 1 + i ∧ (muS s cA cI i).heap[s.heap.size]? = some (muO cA s.heap.size i) ∧ (muS s cA cI i).vm = s.vm ∧ (muS s cA cI i).slotsUsed = s.slotsUsed + 5 + i * 8 ∧ (∀ a, a < s.heap.size → (muS s cA cI i).heap[a]? = s.heap[a]?) ∧ ∀ j, j < i → (muS s cA cI i).heap[s.heap.size + 1 + j]? = some (muI cI)
  | 0 => ⟨by simp [muS], by simp [muS], rfl, by simp [muS, arrV_size], fun a h => State.heap_pushCell_of_lt _ _ h, fun j h => absurd h (Nat.not_lt_zero _)⟩
  | i + 1 => by
    obtain ⟨f1, f2, f3, f4, f5, f6⟩ := mu_facts s cA cI i
    have lt0 : s.heap.size < (muS s cA cI i).heap.size := by rw [f1]; omega
    have c0 : ((muS s cA cI i).pushCell (muI cI)).heap[s.heap.size]? = some (muO cA s.heap.size i) := by rw [State.heap_pushCell_of_lt (h := lt0)]; exact f2
    refine ⟨by simp [muS, State.setCell, f1]; omega, State.heap_setCell_self c0, by simp [muS, f3], by simp [muS, f4, arrV_size]; omega, fun a h => ?_, fun j h => ?_⟩
    · show (((muS s cA cI i).pushCell (muI cI)).setCell s.heap.size _).heap[a]? = _
      have hlt : a < (muS s cA cI i).heap.size := by rw [f1]; omega
      rw [State.heap_setCell_other (Nat.ne_of_gt h), State.heap_pushCell_of_lt (h := hlt)]
      exact f5 a h
    · show (((muS s cA cI i).pushCell (muI cI)).setCell s.heap.size _).heap[s.heap.size + 1 + j]? = _
      rw [State.heap_setCell_other (show s.heap.size ≠ s.heap.size + 1 + j by omega)]
      by_cases q : j = i
      · rw [q, ← f1]
        exact State.heap_pushCell_size _ _
      · have hlt : s.heap.size + 1 + j < (muS s cA cI i).heap.size := by rw [f1]; omega
        rw [State.heap_pushCell_of_lt (h := hlt)]
        exact f6 j (by omega)
theorem mu_top (s : State) (g : JFrame) (cA cI : ClassId) : ∀ i, muS (s.setTop g) cA cI i = (muS s cA cI i).setTop g
  | 0 => rfl
  | i + 1 => by simp only [muS, mu_top s g cA cI i, State.heap_setTop, State.pushCell_setTop, State.setCell_setTop]
/-- the model's way of making it -/
theorem mu_make {cA cI c2 : ClassId} {kA kI : Class} (hkA : s.vm.classes[cA]? = some kA) (hA : kA.kind = .array cI (.array .long)) (hkI : s.vm.classes[cI]? = some kI) (hI : kI.kind = .array c2 .long) (l1 : ¬ 8 > e.platform.arrayLengthLimit) (l2 : ¬ 64 > e.platform.maxHeapBytes) (r1 : s.heap.size + 6 ≤ e.platform.maxCells) (r2 : s.slotsUsed + 45 ≤ e.platform.maxSlots) {Q : Addr → Pre} (hq : ∀ d' acts', Q s.heap.size d' acts' (muS s cA cI 5)) : wp (multianewarray.make cA [5, 8]) Q E e d acts s := by
  rw [multianewarray.make]
  simp only [wp_bind', W.ite, show ¬ (5 : Int32) < 0 by decide, if_false, wp_pure', W.theClass, hkA, hA, Option.some.injEq, exists_eq_left']
  rw [show (5 : Int32).toNatClampNeg = 5 by decide]
  refine mu_one hkA hA (by omega) (by show ¬ 5 * 4 > _; omega) rfl rfl (by omega) (by omega) ?_
  rw [show ((5 : Int32) == 0) = false by decide]
  simp only [Bool.false_eq_true, if_false, wp_bind', wp_pure']
  rw [Std.Legacy.Range.forIn_eq_forIn_range', show ([:5] : Std.Legacy.Range).size = 5 by decide]
  show wp (forIn (List.range' 0 5 1) PUnit.unit _) _ E e d acts _
  refine wp_forIn_inv (fun rest s' => ∃ i, i ≤ 5 ∧ rest = List.range' i (5 - i) ∧ s' = muS s cA cI i) _ _ ⟨0, by omega, rfl, ?_⟩ ?_ ?_
  · show s.pushCell _ = s.pushCell _
    congr 1
  · rintro x rest s' d' acts' Q' ⟨i, hi, hl, rfl⟩ hnext
    have lt : i < 5 := by
      rcases Nat.lt_or_ge i 5 with h | h
      · exact h
      · rw [show 5 - i = 0 by omega] at hl; cases hl
    rw [show 5 - i = 5 - (i + 1) + 1 by omega, List.range'_succ] at hl
    obtain ⟨rfl, hrest⟩ := List.cons.inj hl
    obtain ⟨f1, f2, f3, f4, f5, f6⟩ := mu_facts s cA cI x
    have lt0 : s.heap.size < (muS s cA cI x).heap.size := by rw [f1]; omega
    simp only [wp_bind']
    rw [multianewarray.make]
    simp only [wp_bind', W.ite, show ¬ (8 : Int32) < 0 by decide, if_false, wp_pure', W.theClass, f3, hkI, hI, Option.some.injEq, exists_eq_left']
    rw [show (8 : Int32).toNatClampNeg = 8 by decide]
    refine mu_one (by rw [f3]; exact hkI) hI l1 (by show ¬ 8 * 8 > _; omega) rfl rfl (by rw [f1]; omega) (by rw [f4]; omega) ?_
    simp only [wp_bind', W.writeLoc, wp_pure']
    refine ⟨muO cA s.heap.size x, by rw [State.heap_pushCell_of_lt (h := lt0)]; exact f2, by simp [muO, arrV], by rw [muO, arrV_size]; exact lt, ?_, hnext _ _ _ ⟨x + 1, lt, hrest, ?_⟩⟩
    · show State.fitsSlot _ cA .none x _ = true
      simp [State.fitsSlot, State.slotType?, f3, hkA, hA]
      rfl
    · rw [f1, muO_set]
      rfl
  · rintro s' d' acts' ⟨i, hi, hl, rfl⟩
    have e5 : i = 5 := by
      rcases Nat.lt_or_ge i 5 with h | h
      · rw [show 5 - i = 5 - (i + 1) + 1 by omega, List.range'_succ] at hl; cases hl
      · omega
    subst e5
    simp only [wp_pure']
    exact hq _ _
end MUL
theorem arrV_c {cA : ClassId} {n : Nat} {f g : Nat → Value} (h : ∀ j, j < n → f j = g j) : arrV cA n f = arrV cA n g := by
  unfold arrV
  congr 1
  exact congrArg Array.ofFn (funext fun j => h j.val j.isLt)
section MUS
variable {p : Program} {l : Launch} {e : Env} {R : Room} {s : State} {m : MethodId} {args : Array Value} {below : List Frame} {meth : Method} {c : Code} {T : State} {locs : List Loc} {cells slots : Nat}
theorem mu_all (X : Stand p l e R s m args below meth c T locs cells slots) (cA cI : ClassId) : ∀ i, Stand p l e R s m args below meth c (muS T cA cI i) (locs ++ (List.range i).map fun j => ⟨T.heap.size, j⟩) (cells + 1 + i) (slots + 5 + i * 8)
  | 0 => by
    have h := X.pushed (muO cA T.heap.size 0)
    rw [show (muO cA T.heap.size 0).slots.size = 5 from arrV_size _ _ _] at h
    show Stand p l e R s m args below meth c (T.pushCell (muO cA T.heap.size 0)) (locs ++ []) (cells + 1 + 0) (slots + 5 + 0 * 8)
    rw [List.append_nil]
    exact h
  | i + 1 => by
    have Xi := mu_all X cA cI i
    obtain ⟨f1, f2, f3, f4, f5, f6⟩ := mu_facts T cA cI i
    have lt0 : T.heap.size < (muS T cA cI i).heap.size := by rw [f1]; omega
    have c0 : ((muS T cA cI i).pushCell (muI cI)).heap[T.heap.size]? = some (muO cA T.heap.size i) := by rw [State.heap_pushCell_of_lt (h := lt0)]; exact f2
    have h := (Xi.pushed (muI cI)).stored c0 i (.ref (T.heap.size + 1 + i))
    rw [muO_set, show (muI cI).slots.size = 8 from arrV_size _ _ _] at h
    have e2 : (locs ++ (List.range (i + 1)).map fun j => (⟨T.heap.size, j⟩ : Loc)) = (locs ++ (List.range i).map fun j => (⟨T.heap.size, j⟩ : Loc)) ++ [⟨T.heap.size, i⟩] := by simp [List.range_succ, List.append_assoc]
    rw [e2, show slots + 5 + (i + 1) * 8 = slots + 5 + i * 8 + 8 by omega]
    exact h
theorem mu_step (X : Stand p l e R s m args below meth c T locs cells slots) (hexec : p.tables.exec = Jvm.exec) {own : String} {index : Nat} (hown : s.vm.findClass own = some m.cls) (hcl : (Cond.classLink own index "[[J").before args s = true) (hov : (Cond.arrayOver (.array .long)).before #[] s = true) (har : (Cond.arrayClass .long).before args s = true)
    {g : JFrame} (hg : g.method = m) (hdg : decode c.code g.pc = .ok (.multianewarray index 2, 4)) {rest : List Value} (hst : g.stack = .int 8 :: .int 5 :: rest) (hcells : cells + 6 ≤ R.cells) (hslots : slots + 45 ≤ R.slots) :
    ∃ (vm₁ : Vm) (cA cI : ClassId), s.vm.findClass "[[J" = some cA ∧ s.vm.findClass "[J" = some cI ∧ Stand p l e R s m args below meth c (muS (T.setVm vm₁) cA cI 5) (locs ++ (List.range 5).map fun j => ⟨T.heap.size, j⟩) (cells + 6) (slots + 45) ∧
      ∀ target, Steps p.tables e below ((muS (T.setVm vm₁) cA cI 5).setTop { g with pc := g.pc + 4, stack := .ref T.heap.size :: rest }) target → Steps p.tables e below (T.setTop g) target := by
  subst hg
  have hpl : e.platform.magicAccessors = ({} : Platform).magicAccessors := by rw [X.admits.platform]
  obtain ⟨cI, cA, kA, hcomp, -, hkA, hkdA, hnA⟩ := aol_spec hov
  obtain ⟨cI', kI, c2, hcI, hkI, hkdI⟩ := Cond.arrayClass_spec har
  have eI : cI' = cI := Option.some.inj (hcI.symm.trans hcomp)
  subst eI
  obtain ⟨c0, hfc0, hlk⟩ := Cond.classLink_spec hown hcl e.platform hpl
  have eA : c0 = cA := Option.some.inj (hfc0.symm.trans hnA)
  subst eA
  obtain ⟨hg₁, hwarm₁, hready₁⟩ := State.classEntry (e := e) X.warmed hlk
  generalize T.vm.noted g.method.cls index (.cls c0) = vm₁ at hg₁ hwarm₁ hready₁
  have hal : s.vm.Alike vm₁ := hwarm₁.alike
  obtain ⟨kA₁, hkA₁, heA⟩ := hal.2.2 _ _ hkA
  obtain ⟨kI₁, hkI₁, heI⟩ := hal.2.2 _ _ hkI
  have hkdA₁ : kA₁.kind = .array cI' (.array .long) := by rw [heA]; exact hkdA
  have hkdI₁ : kI₁.kind = .array c2 .long := by rw [heI]; exact hkdI
  have X5 := mu_all (X.noted hwarm₁) c0 cI' 5
  obtain ⟨hr1, hr2⟩ := X.roomAbove hcells hslots
  refine ⟨vm₁, c0, cI', hnA, hcI, X5, fun target hrest => ?_⟩
  have lim : e.platform.arrayLengthLimit = _ := Launch.admits_arrayLengthLimit X.admits
  have lhp : e.platform.maxHeapBytes = _ := Launch.admits_maxHeapBytes X.admits
  jvm_step X.here [hexec, hdg]
  simp only [multianewarray.sem, wp_bind', W.resolveClassAt_links (State.method?_setTop g X.here.top) hg₁]
  rw [W.popN, if_neg (by decide)]
  refine ⟨g, State.topJava?_setTop' (s := T.setVm vm₁) g X.here.top, [.int 5, .int 8], rest, rfl, hst, ?_⟩
  simp only [List.mapM_cons, List.mapM_nil, wp_bind', wp_pure']
  refine mu_make (kA := kA₁) (kI := kI₁) hkA₁ hkdA₁ hkI₁ hkdI₁ (by rw [lim]; omega) (by rw [lhp]; omega) (by show T.heap.size + 6 ≤ _; omega) (by show T.slotsUsed + 45 ≤ _; omega) (fun d' acts' => ?_)
  have eS : ((T.setTop g).setVm vm₁).setTop { g with stack := rest } = (T.setVm vm₁).setTop { g with stack := rest } := by
    show ((T.setVm vm₁).setTop g).setTop _ = _
    rw [State.setTop_setTop]
  rw [eS, mu_top]
  simp only [wp_bind', W.mark, W.pushRef, State.topJava?_setTop' _ X5.here.top, Option.some.injEq, exists_eq_left', State.setTop_setTop, State.heap_setTop]
  intro acts
  simp [jvm, X5.here.top]
  exact hrest
end MUS
section CON2
variable {p : Program} {l : Launch} {e : Env} {R : Room} {s : State} {m : MethodId} {args : Array Value} {below : List Frame} {meth : Method} {c : Code} {H H0 : Heap} {locs : List Loc} {cells slots : Nat} {Q : State → Prop}
variable {cc : ByteArray} {pc nL : Nat} {ls : Array Slot} {rest : List Value} {D : va_G} {A : Nat → Prop} {ws : va_W} {cy : Nat → ClassId} {own : String}
abbrev wRws (cy : Nat → ClassId) (q : Nat) : va_W := [(q, .inl (cy 4, 5, .inr (.inr (.inr (.inr (fun k => some (q + 1 + k))))))), (q + 1, .inl (cy 1, 8, .inr (.inl (fun _ => Int64.ofInt 0)))), (q + 2, .inl (cy 1, 8, .inr (.inl (fun _ => Int64.ofInt 0)))), (q + 3, .inl (cy 1, 8, .inr (.inl (fun _ => Int64.ofInt 0)))), (q + 4, .inl (cy 1, 8, .inr (.inl (fun _ => Int64.ofInt 0)))), (q + 5, .inl (cy 1, 8, .inr (.inl (fun _ => Int64.ofInt 0))))]
theorem Wmul {idx : Nat} (F : CF own cc nL p s m args meth c) (w1 : Cond.classLink own idx "[[J" ∈ BG) (hK : va_K D vwCl (kty cLy cy) s) (hAO : AOs s) (hP : va_P D vwCl ws H) (hD : va_D A ws) (hS : va_S A H0 H locs) (hA : ∀ q, H0.size ≤ q → A q) (hcells : cells + 6 ≤ R.cells) (hslots : slots + 45 ≤ R.slots) (hdg : decode cc pc = .ok (.multianewarray idx 2, 4))
    (kk : ∀ (q : Nat) (H1 : Heap) (locs1 : List Loc), va_P D vwCl (ws ++ wRws cy q) H1 → va_D A (ws ++ wRws cy q) → va_S A H0 H1 locs1 → W p l e R s m args below meth c H1 locs1 (cells + 6) (slots + 45) Q (F0 m (pc + 4) ls (.ref q :: rest))) : W p l e R s m args below meth c H locs cells slots Q (F0 m pc ls (.int 8 :: .int 5 :: rest)) := by
  obtain ⟨hx, hb, hml, hr, hlk, hown, hts, hN, hin⟩ := F
  intro T hT X
  obtain ⟨vm₁, cA, cI, hA1, hI1, X1, st⟩ := mu_step X hx hown (hts _ w1) hAO.1.2 (hts _ ac_long) (g := F0 m pc ls (.int 8 :: .int 5 :: rest)) rfl (by rw [hb]; exact hdg) rfl hcells hslots
  have e4 : cA = cy 4 := Option.some.inj (hA1.symm.trans (show s.vm.findClass "[[J" = some (cy 4) from (hK.2 4 _ (kty_get (Ly := cLy) rfl)).2))
  have e1 : cI = cy 1 := Option.some.inj (hI1.symm.trans (show s.vm.findClass "[J" = some (cy 1) from (hK.2 1 _ (kty_get (Ly := cLy) rfl)).2))
  subst e4
  subst e1
  obtain ⟨f1, f2, f3, f4, f5, f6⟩ := mu_facts (T.setVm vm₁) (cy 4) (cy 1) 5
  have hTs : (T.setVm vm₁).heap = H := hT
  rw [hTs] at f1 f2 f5 f6
  generalize hU : muS (T.setVm vm₁) (cy 4) (cy 1) 5 = U at *
  have old : ∀ (k : Nat) (x : Nat × va_E), ws[k]? = some x → x.1 < H.size := fun k x hx => (hP k x hx).lt
  have inn : ∀ j, j < 5 → U.heap[H.size + 1 + j]? = some (vp_cell (cy 1) (8, .inr (.inl (fun _ => Int64.ofInt 0)))) := fun j hj => f6 j hj
  have P6 : va_P D vwCl (wRws cy H.size) U.heap := fun k x hx => by
    match k, hx with
    | 0, hx =>
      cases hx
      show U.heap[H.size]? = some (vp_cell _ _)
      rw [f2, vp_cell_q]
      exact congrArg some (arrV_c (fun j hj => if_pos hj))
    | 1, hx => cases hx; exact inn 0 (by omega)
    | 2, hx => cases hx; exact inn 1 (by omega)
    | 3, hx => cases hx; exact inn 2 (by omega)
    | 4, hx => cases hx; exact inn 3 (by omega)
    | 5, hx => cases hx; exact inn 4 (by omega)
    | k + 6, hx => simp at hx
  have ad6 : ∀ (k : Nat) (x : Nat × va_E), (wRws cy H.size)[k]? = some x → x.1 = H.size + k := fun k x hx => by
    match k, hx with
    | 0, hx => cases hx; rfl
    | 1, hx => cases hx; rfl
    | 2, hx => cases hx; rfl
    | 3, hx => cases hx; rfl
    | 4, hx => cases hx; rfl
    | 5, hx => cases hx; rfl
    | k + 6, hx => simp at hx
  have D6 : va_D A (wRws cy H.size) := ⟨fun i j x y hi hj e => by have := ad6 i x hi; have := ad6 j y hj; omega, fun k x hx => by rw [ad6 k x hx]; exact hA _ (by have := hS.1; omega)⟩
  obtain ⟨t, a1, b1⟩ := kk H.size U.heap _ (va_P.app (fun k x hx => (hP k x hx).kept (f5 x.1 (old k x hx))) P6) (va_D.app hD D6 (fun i j x y hi hj e => by have := ad6 j y hj; have := old i x hi; omega)) ⟨by have := hS.1; omega, fun x h1 h2 => (f5 x (Nat.lt_of_lt_of_le h1 hS.1)).trans (hS.2.1 x h1 h2), fun x hx => by
    rcases List.mem_append.mp hx with z | z
    · exact hS.2.2 x z
    · obtain ⟨j, -, rfl⟩ := List.mem_map.mp z
      show A T.heap.size
      rw [hT]
      exact hA _ hS.1⟩ U rfl X1
  refine ⟨t, st t ?_, b1⟩
  rw [hT]
  exact a1
end CON2
