/-! Ev: from a place of a method's code on, with abstract locals, stack and region, the method returns with Post. The rows: one an instruction. -/
abbrev vwCl : List vw_C := [(RX0, TX0, 10), (RX1, TX1, 2), (RX2, TX2, 12), (RX3, TX3, 3), (RX4, TX4, 6), (RX5, TX5, 1), (RX6, TX6, 4), (RX7, TX7, 8), (RX8, TX8, 24)]
abbrev Mi : Type := Lay × String × ByteArray × Nat × Option FieldType
abbrev Pst : Type := Option Value → Hp → Prop
def NW (s : State) : Prop := va_Nw (.methodLinkNest "RoofNet$Net" 65 ⟨"RoofNet", "isWithin", "(III)Z"⟩ "RoofNet") s
def lok (ad : Nat → Nat) (lsA : Array Slot) (nL : Nat) (ls : List (Option Value)) : Prop := lsA.size = nL ∧ lv_wf lsA ∧ ∀ (i : Nat) (v : Value), ls[i]? = some (some v) → lsA[i]? = some (Slot.val (cv ad v))
def EvF (M : Mi) (d : Nat) (Post : Pst) (p : Program) (R : Room) (s : State) (m : MethodId) (args : Array Value) (meth : Method) (c : Code) (D : va_G) (cy : Nat → ClassId) (ad : Nat → Nat) (A : Nat → Prop) (Qc : Array Value → State → Outcome → State → Prop) : Prop :=
  p.tables.exec = Jvm.exec ∧ c.code = M.2.2.1 ∧ c.maxLocals = M.2.2.2.1 ∧ meth.sig.returnType = M.2.2.2.2 ∧ meth.locks = false ∧ s.vm.findClass M.2.1 = some m.cls ∧ (∀ w ∈ BG, w.before args s = true) ∧ NW s ∧ (d ≤ R.frames ∧ 60 * d ≤ R.locals) ∧ va_K D vwCl (kty M.1 cy) s ∧
  (∀ v h' t, Post v h' → s.WarmedH t.vm → va_P D vwCl (lws M.1 cy ad h') t.heap → va_F A s t → Qc args s (.returned (v.map (cv ad))) t)
def EvM (M : Mi) (ls : List (Option Value)) (h : Hp) (s : State) (D : va_G) (cy : Nat → ClassId) (ad : Nat → Nat) (A : Nat → Prop) (H : Heap) (locs : List Loc) (lsA : Array Slot) : Prop :=
  va_P D vwCl (lws M.1 cy ad h) H ∧ va_D A (lws M.1 cy ad h) ∧ va_S A s.heap H locs ∧ lok ad lsA M.2.2.2.1 ls
def Ev (M : Mi) (d pc : Nat) (ls : List (Option Value)) (st : List Value) (h : Hp) (Post : Pst) : Prop :=
  ∀ (p : Program) (l : Launch) (e : Env) (R : Room) (s : State) (m : MethodId) (args : Array Value) (below : List Frame) (meth : Method) (c : Code) (D : va_G) (cy : Nat → ClassId) (ad : Nat → Nat) (A : Nat → Prop) (Qc : Array Value → State → Outcome → State → Prop), EvF M d Post p R s m args meth c D cy ad A Qc →
  ∀ (H : Heap) (locs : List Loc) (lsA : Array Slot), EvM M ls h s D cy ad A H locs lsA → W p l e R s m args below meth c H locs R.cells R.slots (MQ below Qc args s R.cells R.slots A) (F0 m pc lsA (st.map (cv ad)))
def prs (ad : Nat → Nat) (ls : List (Option Value)) : List (Nat × Value) := (ls.mapIdx (fun i o => o.map (fun v => (i, cv ad v)))).filterMap id
theorem prs_mem {ad : Nat → Nat} {ls : List (Option Value)} {q : Nat × Value} : q ∈ prs ad ls ↔ ∃ v, ls[q.1]? = some (some v) ∧ q.2 = cv ad v := by
  unfold prs
  rw [List.mem_filterMap]
  constructor
  · rintro ⟨o, ho, hq⟩
    obtain ⟨i, hi⟩ := List.getElem?_of_mem ho
    rw [List.getElem?_mapIdx] at hi
    cases hl : ls[i]? with
    | none => rw [hl] at hi; cases hi
    | some x =>
      rw [hl] at hi
      simp only [Option.map_some, Option.some.injEq] at hi
      subst hi
      cases x with
      | none => cases hq
      | some v =>
        simp only [Option.map_some, id_eq, Option.some.injEq] at hq
        subst hq
        exact ⟨v, hl, rfl⟩
  · rintro ⟨v, hv, e⟩
    refine ⟨some q, ?_, rfl⟩
    apply List.mem_of_getElem? (i := q.1)
    rw [List.getElem?_mapIdx, hv]
    simp only [Option.map_some]
    rw [← e]
theorem lok_has {ad : Nat → Nat} {lsA : Array Slot} {nL : Nat} {ls : List (Option Value)} (h : lok ad lsA nL ls) : lv_has lsA nL (prs ad ls) := by
  refine ⟨h.1, h.2.1, fun q hq => ?_⟩
  obtain ⟨v, hv, e⟩ := prs_mem.mp hq
  rw [h.2.2 _ _ hv, e]
/-- nothing of two words just ahead of local i -/
def okB (ls : List (Option Value)) : Nat → Bool
  | 0 => true
  | i + 1 => match ls[i]? with
    | some (some v) => v.category == 1
    | _ => true
theorem lok_st1 {ad : Nat → Nat} {lsA : Array Slot} {nL i : Nat} {v : Value} {ls : List (Option Value)} (hb : okB ls i = true) (h : lv_has lsA nL ((i, cv ad v) :: (prs ad ls).filter (fun q => !(q.1 == i) && !(q.1 + 1 == i && q.2.category == 2)))) : lok ad lsA nL (ls.set i (some v)) := by
  refine ⟨h.1, h.2.1, fun j w hj => ?_⟩
  by_cases hji : j = i
  · subst hji
    have hl : j < ls.length := by
      have := (List.getElem?_eq_some_iff.mp hj).1
      rwa [List.length_set] at this
    rw [List.getElem?_set_self hl] at hj
    cases hj
    exact h.2.2 (j, cv ad v) List.mem_cons_self
  · rw [List.getElem?_set_ne (Ne.symm hji)] at hj
    refine h.2.2 (j, cv ad w) (List.mem_cons_of_mem _ (List.mem_filter.mpr ⟨prs_mem.mpr ⟨w, hj, rfl⟩, ?_⟩))
    simp only [Bool.and_eq_true, Bool.not_eq_true', beq_eq_false_iff_ne, ne_eq, hji, not_false_eq_true, true_and, Bool.and_eq_false_iff]
    by_cases h2 : j + 1 = i
    · right
      subst h2
      unfold okB at hb
      simp only [hj, beq_iff_eq] at hb
      rw [cv_cat, hb]
      decide
    · left
      exact h2
theorem lok_st2 {ad : Nat → Nat} {lsA : Array Slot} {nL i : Nat} {v : Value} {ls : List (Option Value)} (hb : okB ls i = true) (h : lv_has lsA nL ((i, cv ad v) :: (prs ad ls).filter (fun q => !(q.1 == i) && (!(q.1 == i + 1) && !(q.1 + 1 == i && q.2.category == 2))))) : lok ad lsA nL ((ls.set i (some v)).set (i + 1) none) := by
  refine ⟨h.1, h.2.1, fun j w hj => ?_⟩
  by_cases hj1 : j = i + 1
  · subst hj1
    have hl := (List.getElem?_eq_some_iff.mp hj).1
    rw [List.length_set] at hl
    rw [List.getElem?_set_self hl] at hj
    cases hj
  · rw [List.getElem?_set_ne (Ne.symm hj1)] at hj
    by_cases hji : j = i
    · subst hji
      have hl : j < ls.length := by
        have := (List.getElem?_eq_some_iff.mp hj).1
        rwa [List.length_set] at this
      rw [List.getElem?_set_self hl] at hj
      cases hj
      exact h.2.2 (j, cv ad v) List.mem_cons_self
    · rw [List.getElem?_set_ne (Ne.symm hji)] at hj
      refine h.2.2 (j, cv ad w) (List.mem_cons_of_mem _ (List.mem_filter.mpr ⟨prs_mem.mpr ⟨w, hj, rfl⟩, ?_⟩))
      simp only [Bool.and_eq_true, Bool.not_eq_true', beq_eq_false_iff_ne, ne_eq, hji, hj1, not_false_eq_true, true_and, Bool.and_eq_false_iff]
      by_cases h2 : j + 1 = i
      · right
        subst h2
        unfold okB at hb
        simp only [hj, beq_iff_eq] at hb
        rw [cv_cat, hb]
        decide
      · left
        exact h2
theorem mn32 : (-2147483648 : Int) = Int32.minValue.toInt := by decide
theorem mx32 : (2147483647 : Int) = Int32.maxValue.toInt := by decide
theorem mn64 : (-9223372036854775808 : Int) = Int64.minValue.toInt := by decide
theorem mx64 : (9223372036854775807 : Int) = Int64.maxValue.toInt := by decide
theorem mn8 : (-128 : Int) = Int8.minValue.toInt := by decide
theorem mx8 : (127 : Int) = Int8.maxValue.toInt := by decide
theorem mn16 : (-32768 : Int) = Int16.minValue.toInt := by decide
theorem mx16 : (32767 : Int) = Int16.maxValue.toInt := by decide
theorem i32tmod {x y : Int} (hx : I32 x) (hy : I32 y) : Int32.ofInt x - Int32.ofInt x / Int32.ofInt y * Int32.ofInt y = Int32.ofInt (x.tmod y) := by
  rw [← Int32.ofInt_tdiv (mn32 ▸ hx.1) (mx32 ▸ hx.2) (mn32 ▸ hy.1) (mx32 ▸ hy.2), ← Int32.ofInt_mul, ← Int32.ofInt_sub, Int.tmod_def, Int.mul_comm]
theorem i64tmod {x y : Int} (hx : I64 x) (hy : I64 y) : Int64.ofInt x - Int64.ofInt x / Int64.ofInt y * Int64.ofInt y = Int64.ofInt (x.tmod y) := by
  rw [← Int64.ofInt_tdiv (mn64 ▸ hx.1) (mx64 ▸ hx.2) (mn64 ▸ hy.1) (mx64 ▸ hy.2), ← Int64.ofInt_mul, ← Int64.ofInt_sub, Int.tmod_def, Int.mul_comm]
theorem i2cE {x : Int} (hx : 0 ≤ x ∧ x < 65536) : ((Int32.ofInt x).toUInt32 % 65536).toInt32 = Int32.ofInt x := by
  obtain ⟨n, rfl⟩ := Int.eq_ofNat_of_zero_le hx.1
  have h2 : n < 65536 := by omega
  rw [pk_char, Int32.ofInt_eq_ofNat]
  show nI _ = nI n
  congr 1
  show (nI n).toBitVec.toNat % 65536 = n
  rw [pk_tn (by omega)]
  omega
theorem narC {x : Int} (hx : 0 ≤ x ∧ x < 65536) : (Int32.ofInt x).toUInt32.toUInt16.toUInt32.toInt32 = Int32.ofInt x := by
  obtain ⟨n, rfl⟩ := Int.eq_ofNat_of_zero_le hx.1
  have h2 : n < 65536 := by omega
  rw [Int32.ofInt_eq_ofNat]
  have := (pk_charN h2).1
  simp only [narrow, Value.int.injEq] at this
  exact this
theorem i2bE {x : Int} (hx : -128 ≤ x ∧ x ≤ 127) : (Int32.ofInt x).toInt8.toInt32 = Int32.ofInt x := by
  rw [Int32.toInt8_ofInt, Int8.toInt32_ofInt (mn8 ▸ hx.1) (mx8 ▸ hx.2)]
section EVR
variable {M : Mi} {d pc pc' : Nat} {ls : List (Option Value)} {st : List Value} {h : Hp} {Post : Pst}
theorem Ev.iconst {n : Int} (hd : decode M.2.2.1 pc = .ok (.iconst n, 1)) (hn : pc + 1 = pc')  (k : Ev M d pc' ls (iv n :: st) h Post) : Ev M d pc ls (st) h Post := by
  subst hn
  intro p l e R s m args below meth c D cy ad A Qc F H locs lsA X
  refine lv_iconst F.1 F.2.1 hd rfl ?_
  exact k p l e R s m args below meth c D cy ad A Qc F H locs lsA X
theorem Ev.bipush {n : Int} (hd : decode M.2.2.1 pc = .ok (.bipush n, 2)) (hn : pc + 2 = pc') (hb : -128 ≤ n ∧ n ≤ 127) (k : Ev M d pc' ls (iv n :: st) h Post) : Ev M d pc ls (st) h Post := by
  subst hn
  intro p l e R s m args below meth c D cy ad A Qc F H locs lsA X
  refine lv_bipush F.1 F.2.1 hd (Int8.toInt32_ofInt (mn8 ▸ hb.1) (mx8 ▸ hb.2)) ?_
  exact k p l e R s m args below meth c D cy ad A Qc F H locs lsA X
theorem Ev.sipush {n : Int} (hd : decode M.2.2.1 pc = .ok (.sipush n, 3)) (hn : pc + 3 = pc') (hb : -32768 ≤ n ∧ n ≤ 32767) (k : Ev M d pc' ls (iv n :: st) h Post) : Ev M d pc ls (st) h Post := by
  subst hn
  intro p l e R s m args below meth c D cy ad A Qc F H locs lsA X
  refine lv_sipush F.1 F.2.1 hd (Int16.toInt32_ofInt (mn16 ▸ hb.1) (mx16 ▸ hb.2)) ?_
  exact k p l e R s m args below meth c D cy ad A Qc F H locs lsA X
theorem Ev.lconst {n : Fin 2} (hd : decode M.2.2.1 pc = .ok (.lconst n, 1)) (hn : pc + 1 = pc')  (k : Ev M d pc' ls (jv ((n : Nat) : Int) :: st) h Post) : Ev M d pc ls (st) h Post := by
  subst hn
  intro p l e R s m args below meth c D cy ad A Qc F H locs lsA X
  refine lv_lconst F.1 F.2.1 hd (Int64.ofInt_eq_ofNat).symm ?_
  exact k p l e R s m args below meth c D cy ad A Qc F H locs lsA X
theorem Ev.iload_n {i : Fin 4} {x : Int} (hd : decode M.2.2.1 pc = .ok (.iload_n i, 1)) (hn : pc + 1 = pc') (hl : ls[(i : Nat)]? = some (some (iv x))) (k : Ev M d pc' ls (iv x :: st) h Post) : Ev M d pc ls (st) h Post := by
  subst hn
  intro p l e R s m args below meth c D cy ad A Qc F H locs lsA X
  refine lv_iload_n F.1 F.2.1 hd rfl (X.2.2.2.2.2 _ _ hl) ?_
  exact k p l e R s m args below meth c D cy ad A Qc F H locs lsA X
theorem Ev.iload {i : Nat} {x : Int} (hd : decode M.2.2.1 pc = .ok (.iload i, 2)) (hn : pc + 2 = pc') (hl : ls[i]? = some (some (iv x))) (k : Ev M d pc' ls (iv x :: st) h Post) : Ev M d pc ls (st) h Post := by
  subst hn
  intro p l e R s m args below meth c D cy ad A Qc F H locs lsA X
  refine lv_iload F.1 F.2.1 hd (X.2.2.2.2.2 _ _ hl) ?_
  exact k p l e R s m args below meth c D cy ad A Qc F H locs lsA X
theorem Ev.lload_n {i : Fin 4} {x : Int} (hd : decode M.2.2.1 pc = .ok (.lload_n i, 1)) (hn : pc + 1 = pc') (hl : ls[(i : Nat)]? = some (some (jv x))) (k : Ev M d pc' ls (jv x :: st) h Post) : Ev M d pc ls (st) h Post := by
  subst hn
  intro p l e R s m args below meth c D cy ad A Qc F H locs lsA X
  refine lv_lload_n F.1 F.2.1 hd rfl (X.2.2.2.2.2 _ _ hl) ?_
  exact k p l e R s m args below meth c D cy ad A Qc F H locs lsA X
theorem Ev.lload {i : Nat} {x : Int} (hd : decode M.2.2.1 pc = .ok (.lload i, 2)) (hn : pc + 2 = pc') (hl : ls[i]? = some (some (jv x))) (k : Ev M d pc' ls (jv x :: st) h Post) : Ev M d pc ls (st) h Post := by
  subst hn
  intro p l e R s m args below meth c D cy ad A Qc F H locs lsA X
  refine lv_lload F.1 F.2.1 hd (X.2.2.2.2.2 _ _ hl) ?_
  exact k p l e R s m args below meth c D cy ad A Qc F H locs lsA X
theorem Ev.aload_n {i : Fin 4} {x : Nat} (hd : decode M.2.2.1 pc = .ok (.aload_n i, 1)) (hn : pc + 1 = pc') (hl : ls[(i : Nat)]? = some (some (.ref x))) (k : Ev M d pc' ls (.ref x :: st) h Post) : Ev M d pc ls (st) h Post := by
  subst hn
  intro p l e R s m args below meth c D cy ad A Qc F H locs lsA X
  refine lv_aload_n F.1 F.2.1 hd rfl (X.2.2.2.2.2 _ _ hl) ?_
  exact k p l e R s m args below meth c D cy ad A Qc F H locs lsA X
theorem Ev.aload {i : Nat} {x : Nat} (hd : decode M.2.2.1 pc = .ok (.aload i, 2)) (hn : pc + 2 = pc') (hl : ls[i]? = some (some (.ref x))) (k : Ev M d pc' ls (.ref x :: st) h Post) : Ev M d pc ls (st) h Post := by
  subst hn
  intro p l e R s m args below meth c D cy ad A Qc F H locs lsA X
  refine lv_aload F.1 F.2.1 hd (X.2.2.2.2.2 _ _ hl) ?_
  exact k p l e R s m args below meth c D cy ad A Qc F H locs lsA X
theorem Ev.istore_n {i : Fin 4} {x : Int} (hd : decode M.2.2.1 pc = .ok (.istore_n i, 1)) (hn : pc + 1 = pc') (hi : (i : Nat) < M.2.2.2.1) (hb : okB ls (i : Nat) = true) (k : Ev M d pc' (ls.set (i : Nat) (some (iv x))) st h Post) : Ev M d pc ls (iv x :: st) h Post := by
  subst hn
  intro p l e R s m args below meth c D cy ad A Qc F H locs lsA X
  refine lv_istore_n F.1 F.2.1 hd rfl (lok_has X.2.2.2) hi rfl (fun lsB hB => ?_)
  exact k p l e R s m args below meth c D cy ad A Qc F H locs lsB ⟨X.1, X.2.1, X.2.2.1, lok_st1 hb hB⟩
theorem Ev.istore {i : Nat} {x : Int} (hd : decode M.2.2.1 pc = .ok (.istore i, 2)) (hn : pc + 2 = pc') (hi : i < M.2.2.2.1) (hb : okB ls i = true) (k : Ev M d pc' (ls.set i (some (iv x))) st h Post) : Ev M d pc ls (iv x :: st) h Post := by
  subst hn
  intro p l e R s m args below meth c D cy ad A Qc F H locs lsA X
  refine lv_istore F.1 F.2.1 hd (lok_has X.2.2.2) hi rfl (fun lsB hB => ?_)
  exact k p l e R s m args below meth c D cy ad A Qc F H locs lsB ⟨X.1, X.2.1, X.2.2.1, lok_st1 hb hB⟩
theorem Ev.lstore_n {i : Fin 4} {x : Int} (hd : decode M.2.2.1 pc = .ok (.lstore_n i, 1)) (hn : pc + 1 = pc') (hi : (i : Nat) + 1 < M.2.2.2.1) (hb : okB ls (i : Nat) = true) (k : Ev M d pc' ((ls.set (i : Nat) (some (jv x))).set ((i : Nat) + 1) none) st h Post) : Ev M d pc ls (jv x :: st) h Post := by
  subst hn
  intro p l e R s m args below meth c D cy ad A Qc F H locs lsA X
  refine lv_lstore_n F.1 F.2.1 hd rfl (lok_has X.2.2.2) hi rfl (fun lsB hB => ?_)
  exact k p l e R s m args below meth c D cy ad A Qc F H locs lsB ⟨X.1, X.2.1, X.2.2.1, lok_st2 hb hB⟩
theorem Ev.lstore {i : Nat} {x : Int} (hd : decode M.2.2.1 pc = .ok (.lstore i, 2)) (hn : pc + 2 = pc') (hi : i + 1 < M.2.2.2.1) (hb : okB ls i = true) (k : Ev M d pc' ((ls.set i (some (jv x))).set (i + 1) none) st h Post) : Ev M d pc ls (jv x :: st) h Post := by
  subst hn
  intro p l e R s m args below meth c D cy ad A Qc F H locs lsA X
  refine lv_lstore F.1 F.2.1 hd (lok_has X.2.2.2) hi rfl (fun lsB hB => ?_)
  exact k p l e R s m args below meth c D cy ad A Qc F H locs lsB ⟨X.1, X.2.1, X.2.2.1, lok_st2 hb hB⟩
theorem Ev.astore_n {i : Fin 4} {x : Nat} (hd : decode M.2.2.1 pc = .ok (.astore_n i, 1)) (hn : pc + 1 = pc') (hi : (i : Nat) < M.2.2.2.1) (hb : okB ls (i : Nat) = true) (k : Ev M d pc' (ls.set (i : Nat) (some (.ref x))) st h Post) : Ev M d pc ls (.ref x :: st) h Post := by
  subst hn
  intro p l e R s m args below meth c D cy ad A Qc F H locs lsA X
  refine lv_astore_n F.1 F.2.1 hd rfl (lok_has X.2.2.2) hi rfl (fun lsB hB => ?_)
  exact k p l e R s m args below meth c D cy ad A Qc F H locs lsB ⟨X.1, X.2.1, X.2.2.1, lok_st1 hb hB⟩
theorem Ev.astore {i : Nat} {x : Nat} (hd : decode M.2.2.1 pc = .ok (.astore i, 2)) (hn : pc + 2 = pc') (hi : i < M.2.2.2.1) (hb : okB ls i = true) (k : Ev M d pc' (ls.set i (some (.ref x))) st h Post) : Ev M d pc ls (.ref x :: st) h Post := by
  subst hn
  intro p l e R s m args below meth c D cy ad A Qc F H locs lsA X
  refine lv_astore F.1 F.2.1 hd (lok_has X.2.2.2) hi rfl (fun lsB hB => ?_)
  exact k p l e R s m args below meth c D cy ad A Qc F H locs lsB ⟨X.1, X.2.1, X.2.2.1, lok_st1 hb hB⟩
/-- a local is forgotten -/
theorem Ev.drop (i : Nat) (k : Ev M d pc (ls.set i none) st h Post) : Ev M d pc ls st h Post := by
  intro p l e R s m args below meth c D cy ad A Qc F H locs lsA X
  refine k p l e R s m args below meth c D cy ad A Qc F H locs lsA ⟨X.1, X.2.1, X.2.2.1, X.2.2.2.1, X.2.2.2.2.1, fun j v hj => ?_⟩
  by_cases hji : j = i
  · subst hji
    have hl := (List.getElem?_eq_some_iff.mp hj).1
    rw [List.length_set] at hl
    rw [List.getElem?_set_self hl] at hj
    cases hj
  · rw [List.getElem?_set_ne (Ne.symm hji)] at hj
    exact X.2.2.2.2.2 j v hj
theorem Ev.iinc {i : Nat} {n x : Int} (hd : decode M.2.2.1 pc = .ok (.iinc i n, 3)) (hn : pc + 3 = pc') (hl : ls[i]? = some (some (iv x))) (hi : i < M.2.2.2.1) (hb : okB ls i = true) (k : Ev M d pc' (ls.set i (some (iv (x + n)))) st h Post) : Ev M d pc ls st h Post := by
  subst hn
  intro p l e R s m args below meth c D cy ad A Qc F H locs lsA X
  obtain ⟨q, hq⟩ := List.getElem?_of_mem (prs_mem.mpr ⟨iv x, hl, rfl⟩ : (i, iv x) ∈ prs ad ls)
  refine lv_iinc F.1 F.2.1 hd (lok_has X.2.2.2) hq (Int32.ofInt_add x n).symm hi rfl (fun lsB hB => ?_)
  exact k p l e R s m args below meth c D cy ad A Qc F H locs lsB ⟨X.1, X.2.1, X.2.2.1, lok_st1 (v := iv (x + n)) hb hB⟩
theorem Ev.iadd {x y : Int} (hd : decode M.2.2.1 pc = .ok (.iadd, 1)) (hn : pc + 1 = pc')  (k : Ev M d pc' ls (iv (x + y) :: st) h Post) : Ev M d pc ls (iv y :: iv x :: st) h Post := by
  subst hn
  intro p l e R s m args below meth c D cy ad A Qc F H locs lsA X
  refine lv_iadd F.1 F.2.1 hd ?_
  rw [← Int32.ofInt_add]
  exact k p l e R s m args below meth c D cy ad A Qc F H locs lsA X
theorem Ev.isub {x y : Int} (hd : decode M.2.2.1 pc = .ok (.isub, 1)) (hn : pc + 1 = pc')  (k : Ev M d pc' ls (iv (x - y) :: st) h Post) : Ev M d pc ls (iv y :: iv x :: st) h Post := by
  subst hn
  intro p l e R s m args below meth c D cy ad A Qc F H locs lsA X
  refine lv_isub F.1 F.2.1 hd ?_
  rw [← Int32.ofInt_sub]
  exact k p l e R s m args below meth c D cy ad A Qc F H locs lsA X
theorem Ev.imul {x y : Int} (hd : decode M.2.2.1 pc = .ok (.imul, 1)) (hn : pc + 1 = pc')  (k : Ev M d pc' ls (iv (x * y) :: st) h Post) : Ev M d pc ls (iv y :: iv x :: st) h Post := by
  subst hn
  intro p l e R s m args below meth c D cy ad A Qc F H locs lsA X
  refine lv_imul F.1 F.2.1 hd ?_
  rw [← Int32.ofInt_mul]
  exact k p l e R s m args below meth c D cy ad A Qc F H locs lsA X
theorem Ev.ladd {x y : Int} (hd : decode M.2.2.1 pc = .ok (.ladd, 1)) (hn : pc + 1 = pc')  (k : Ev M d pc' ls (jv (x + y) :: st) h Post) : Ev M d pc ls (jv y :: jv x :: st) h Post := by
  subst hn
  intro p l e R s m args below meth c D cy ad A Qc F H locs lsA X
  refine lv_ladd F.1 F.2.1 hd ?_
  rw [← Int64.ofInt_add]
  exact k p l e R s m args below meth c D cy ad A Qc F H locs lsA X
theorem Ev.lsub {x y : Int} (hd : decode M.2.2.1 pc = .ok (.lsub, 1)) (hn : pc + 1 = pc')  (k : Ev M d pc' ls (jv (x - y) :: st) h Post) : Ev M d pc ls (jv y :: jv x :: st) h Post := by
  subst hn
  intro p l e R s m args below meth c D cy ad A Qc F H locs lsA X
  refine lv_lsub F.1 F.2.1 hd ?_
  rw [← Int64.ofInt_sub]
  exact k p l e R s m args below meth c D cy ad A Qc F H locs lsA X
theorem Ev.lmul {x y : Int} (hd : decode M.2.2.1 pc = .ok (.lmul, 1)) (hn : pc + 1 = pc')  (k : Ev M d pc' ls (jv (x * y) :: st) h Post) : Ev M d pc ls (jv y :: jv x :: st) h Post := by
  subst hn
  intro p l e R s m args below meth c D cy ad A Qc F H locs lsA X
  refine lv_lmul F.1 F.2.1 hd ?_
  rw [← Int64.ofInt_mul]
  exact k p l e R s m args below meth c D cy ad A Qc F H locs lsA X
theorem Ev.ineg {x : Int} (hd : decode M.2.2.1 pc = .ok (.ineg, 1)) (hn : pc + 1 = pc')  (k : Ev M d pc' ls (iv (-x) :: st) h Post) : Ev M d pc ls (iv x :: st) h Post := by
  subst hn
  intro p l e R s m args below meth c D cy ad A Qc F H locs lsA X
  refine lv_ineg F.1 F.2.1 hd ?_
  rw [← Int32.ofInt_neg]
  exact k p l e R s m args below meth c D cy ad A Qc F H locs lsA X
theorem Ev.lneg {x : Int} (hd : decode M.2.2.1 pc = .ok (.lneg, 1)) (hn : pc + 1 = pc')  (k : Ev M d pc' ls (jv (-x) :: st) h Post) : Ev M d pc ls (jv x :: st) h Post := by
  subst hn
  intro p l e R s m args below meth c D cy ad A Qc F H locs lsA X
  refine lv_lneg F.1 F.2.1 hd ?_
  rw [← Int64.ofInt_neg]
  exact k p l e R s m args below meth c D cy ad A Qc F H locs lsA X
theorem Ev.idiv {x y : Int} (hd : decode M.2.2.1 pc = .ok (.idiv, 1)) (hn : pc + 1 = pc') (hx : I32 x) (hy : I32 y) (h0 : ¬ y = 0) (k : Ev M d pc' ls (iv (x.tdiv y) :: st) h Post) : Ev M d pc ls (iv y :: iv x :: st) h Post := by
  subst hn
  intro p l e R s m args below meth c D cy ad A Qc F H locs lsA X
  refine lv_idiv F.1 F.2.1 hd (fun q => h0 ((i32eq hy ⟨by decide, by decide⟩).mp (q.trans i32_0))) ?_
  rw [← Int32.ofInt_tdiv (mn32 ▸ hx.1) (mx32 ▸ hx.2) (mn32 ▸ hy.1) (mx32 ▸ hy.2)]
  exact k p l e R s m args below meth c D cy ad A Qc F H locs lsA X
theorem Ev.irem {x y : Int} (hd : decode M.2.2.1 pc = .ok (.irem, 1)) (hn : pc + 1 = pc') (hx : I32 x) (hy : I32 y) (h0 : ¬ y = 0) (k : Ev M d pc' ls (iv (x.tmod y) :: st) h Post) : Ev M d pc ls (iv y :: iv x :: st) h Post := by
  subst hn
  intro p l e R s m args below meth c D cy ad A Qc F H locs lsA X
  refine lv_irem F.1 F.2.1 hd (fun q => h0 ((i32eq hy ⟨by decide, by decide⟩).mp (q.trans i32_0))) ?_
  rw [i32tmod hx hy]
  exact k p l e R s m args below meth c D cy ad A Qc F H locs lsA X
theorem Ev.ldiv {x y : Int} (hd : decode M.2.2.1 pc = .ok (.ldiv, 1)) (hn : pc + 1 = pc') (hx : I64 x) (hy : I64 y) (h0 : ¬ y = 0) (k : Ev M d pc' ls (jv (x.tdiv y) :: st) h Post) : Ev M d pc ls (jv y :: jv x :: st) h Post := by
  subst hn
  intro p l e R s m args below meth c D cy ad A Qc F H locs lsA X
  refine lv_ldiv F.1 F.2.1 hd (fun q => h0 ((i64eq hy ⟨by decide, by decide⟩).mp (q.trans (by decide : (0 : Int64) = Int64.ofInt 0)))) ?_
  rw [← Int64.ofInt_tdiv (mn64 ▸ hx.1) (mx64 ▸ hx.2) (mn64 ▸ hy.1) (mx64 ▸ hy.2)]
  exact k p l e R s m args below meth c D cy ad A Qc F H locs lsA X
theorem Ev.lrem {x y : Int} (hd : decode M.2.2.1 pc = .ok (.lrem, 1)) (hn : pc + 1 = pc') (hx : I64 x) (hy : I64 y) (h0 : ¬ y = 0) (k : Ev M d pc' ls (jv (x.tmod y) :: st) h Post) : Ev M d pc ls (jv y :: jv x :: st) h Post := by
  subst hn
  intro p l e R s m args below meth c D cy ad A Qc F H locs lsA X
  refine lv_lrem F.1 F.2.1 hd (fun q => h0 ((i64eq hy ⟨by decide, by decide⟩).mp (q.trans (by decide : (0 : Int64) = Int64.ofInt 0)))) ?_
  rw [i64tmod hx hy]
  exact k p l e R s m args below meth c D cy ad A Qc F H locs lsA X
theorem Ev.i2l {x : Int} (hd : decode M.2.2.1 pc = .ok (.i2l, 1)) (hn : pc + 1 = pc') (hx : I32 x) (k : Ev M d pc' ls (jv x :: st) h Post) : Ev M d pc ls (iv x :: st) h Post := by
  subst hn
  intro p l e R s m args below meth c D cy ad A Qc F H locs lsA X
  refine lv_i2l F.1 F.2.1 hd (Int32.toInt64_ofInt (mn32 ▸ hx.1) (mx32 ▸ hx.2)) ?_
  exact k p l e R s m args below meth c D cy ad A Qc F H locs lsA X
theorem Ev.l2i {x : Int} (hd : decode M.2.2.1 pc = .ok (.l2i, 1)) (hn : pc + 1 = pc')  (k : Ev M d pc' ls (iv x :: st) h Post) : Ev M d pc ls (jv x :: st) h Post := by
  subst hn
  intro p l e R s m args below meth c D cy ad A Qc F H locs lsA X
  refine lv_l2i F.1 F.2.1 hd Int64.toInt32_ofInt ?_
  exact k p l e R s m args below meth c D cy ad A Qc F H locs lsA X
theorem Ev.i2c {x : Int} (hd : decode M.2.2.1 pc = .ok (.i2c, 1)) (hn : pc + 1 = pc') (hx : 0 ≤ x ∧ x < 65536) (k : Ev M d pc' ls (iv x :: st) h Post) : Ev M d pc ls (iv x :: st) h Post := by
  subst hn
  intro p l e R s m args below meth c D cy ad A Qc F H locs lsA X
  refine lv_i2c F.1 F.2.1 hd (i2cE hx) ?_
  exact k p l e R s m args below meth c D cy ad A Qc F H locs lsA X
theorem Ev.i2b {x : Int} (hd : decode M.2.2.1 pc = .ok (.i2b, 1)) (hn : pc + 1 = pc') (hx : -128 ≤ x ∧ x ≤ 127) (k : Ev M d pc' ls (iv x :: st) h Post) : Ev M d pc ls (iv x :: st) h Post := by
  subst hn
  intro p l e R s m args below meth c D cy ad A Qc F H locs lsA X
  refine lv_i2b F.1 F.2.1 hd (i2bE hx) ?_
  exact k p l e R s m args below meth c D cy ad A Qc F H locs lsA X
theorem Ev.iand {x y z : Int} (hd : decode M.2.2.1 pc = .ok (.iand, 1)) (hn : pc + 1 = pc') (hz : Int32.ofInt x &&& Int32.ofInt y = Int32.ofInt z) (k : Ev M d pc' ls (iv z :: st) h Post) : Ev M d pc ls (iv y :: iv x :: st) h Post := by
  subst hn
  intro p l e R s m args below meth c D cy ad A Qc F H locs lsA X
  refine lv_iand F.1 F.2.1 hd ?_
  rw [hz]
  exact k p l e R s m args below meth c D cy ad A Qc F H locs lsA X
theorem Ev.ior {x y z : Int} (hd : decode M.2.2.1 pc = .ok (.ior, 1)) (hn : pc + 1 = pc') (hz : Int32.ofInt x ||| Int32.ofInt y = Int32.ofInt z) (k : Ev M d pc' ls (iv z :: st) h Post) : Ev M d pc ls (iv y :: iv x :: st) h Post := by
  subst hn
  intro p l e R s m args below meth c D cy ad A Qc F H locs lsA X
  refine lv_ior F.1 F.2.1 hd ?_
  rw [hz]
  exact k p l e R s m args below meth c D cy ad A Qc F H locs lsA X
theorem Ev.ixor {x y z : Int} (hd : decode M.2.2.1 pc = .ok (.ixor, 1)) (hn : pc + 1 = pc') (hz : Int32.ofInt x ^^^ Int32.ofInt y = Int32.ofInt z) (k : Ev M d pc' ls (iv z :: st) h Post) : Ev M d pc ls (iv y :: iv x :: st) h Post := by
  subst hn
  intro p l e R s m args below meth c D cy ad A Qc F H locs lsA X
  refine lv_ixor F.1 F.2.1 hd ?_
  rw [hz]
  exact k p l e R s m args below meth c D cy ad A Qc F H locs lsA X
theorem Ev.lxor {x y z : Int} (hd : decode M.2.2.1 pc = .ok (.lxor, 1)) (hn : pc + 1 = pc') (hz : Int64.ofInt x ^^^ Int64.ofInt y = Int64.ofInt z) (k : Ev M d pc' ls (jv z :: st) h Post) : Ev M d pc ls (jv y :: jv x :: st) h Post := by
  subst hn
  intro p l e R s m args below meth c D cy ad A Qc F H locs lsA X
  refine lv_lxor F.1 F.2.1 hd ?_
  rw [hz]
  exact k p l e R s m args below meth c D cy ad A Qc F H locs lsA X
theorem Ev.ishl {x y z : Int} (hd : decode M.2.2.1 pc = .ok (.ishl, 1)) (hn : pc + 1 = pc') (hz : Int32.ofInt x <<< (Int32.ofInt y &&& 31) = Int32.ofInt z) (k : Ev M d pc' ls (iv z :: st) h Post) : Ev M d pc ls (iv y :: iv x :: st) h Post := by
  subst hn
  intro p l e R s m args below meth c D cy ad A Qc F H locs lsA X
  refine lv_ishl F.1 F.2.1 hd ?_
  rw [hz]
  exact k p l e R s m args below meth c D cy ad A Qc F H locs lsA X
theorem Ev.ishr {x y z : Int} (hd : decode M.2.2.1 pc = .ok (.ishr, 1)) (hn : pc + 1 = pc') (hz : Int32.ofInt x >>> (Int32.ofInt y &&& 31) = Int32.ofInt z) (k : Ev M d pc' ls (iv z :: st) h Post) : Ev M d pc ls (iv y :: iv x :: st) h Post := by
  subst hn
  intro p l e R s m args below meth c D cy ad A Qc F H locs lsA X
  refine lv_ishr F.1 F.2.1 hd ?_
  rw [hz]
  exact k p l e R s m args below meth c D cy ad A Qc F H locs lsA X
theorem Ev.iushr {x y z : Int} (hd : decode M.2.2.1 pc = .ok (.iushr, 1)) (hn : pc + 1 = pc') (hz : ((Int32.ofInt x).toUInt32 >>> ((Int32.ofInt y).toUInt32 &&& Int32.toUInt32 31)).toInt32 = Int32.ofInt z) (k : Ev M d pc' ls (iv z :: st) h Post) : Ev M d pc ls (iv y :: iv x :: st) h Post := by
  subst hn
  intro p l e R s m args below meth c D cy ad A Qc F H locs lsA X
  refine lv_iushr F.1 F.2.1 hd hz ?_
  exact k p l e R s m args below meth c D cy ad A Qc F H locs lsA X
theorem Ev.dupI {x : Int} (hd : decode M.2.2.1 pc = .ok (.dup, 1)) (hn : pc + 1 = pc')  (k : Ev M d pc' ls (iv x :: iv x :: st) h Post) : Ev M d pc ls (iv x :: st) h Post := by
  subst hn
  intro p l e R s m args below meth c D cy ad A Qc F H locs lsA X
  refine lv_dup F.1 F.2.1 hd rfl ?_
  exact k p l e R s m args below meth c D cy ad A Qc F H locs lsA X
theorem Ev.dupR {x : Nat} (hd : decode M.2.2.1 pc = .ok (.dup, 1)) (hn : pc + 1 = pc')  (k : Ev M d pc' ls (.ref x :: .ref x :: st) h Post) : Ev M d pc ls (.ref x :: st) h Post := by
  subst hn
  intro p l e R s m args below meth c D cy ad A Qc F H locs lsA X
  refine lv_dup F.1 F.2.1 hd rfl ?_
  exact k p l e R s m args below meth c D cy ad A Qc F H locs lsA X
theorem Ev.dup2 {x y : Value} (hd : decode M.2.2.1 pc = .ok (.dup2, 1)) (hn : pc + 1 = pc') (hx : x.category = 1) (hy : y.category = 1) (k : Ev M d pc' ls (y :: x :: y :: x :: st) h Post) : Ev M d pc ls (y :: x :: st) h Post := by
  subst hn
  intro p l e R s m args below meth c D cy ad A Qc F H locs lsA X
  refine lv_dup2_11 F.1 F.2.1 hd (by rw [cv_cat]; exact hy) (by rw [cv_cat]; exact hx) ?_
  exact k p l e R s m args below meth c D cy ad A Qc F H locs lsA X
theorem Ev.popV {x : Value} (hd : decode M.2.2.1 pc = .ok (.pop, 1)) (hn : pc + 1 = pc') (hx : x.category = 1) (k : Ev M d pc' ls (st) h Post) : Ev M d pc ls (x :: st) h Post := by
  subst hn
  intro p l e R s m args below meth c D cy ad A Qc F H locs lsA X
  refine lv_pop F.1 F.2.1 hd (by rw [cv_cat]; exact hx) ?_
  exact k p l e R s m args below meth c D cy ad A Qc F H locs lsA X
def lgc (x y : Int) : Int := if y < x then 1 else if x = y then 0 else -1
theorem lgcE {x y : Int} (hx : I64 x) (hy : I64 y) : lg_cmp (Int64.ofInt x) (Int64.ofInt y) = Int32.ofInt (lgc x y) := by
  unfold lg_cmp lgc
  by_cases h1 : y < x
  · rw [if_pos ((i64lt hy hx).mpr h1), if_pos h1]; rfl
  · rw [if_neg (fun q => h1 ((i64lt hy hx).mp q)), if_neg h1]
    by_cases h2 : x = y
    · rw [if_pos ((i64eq hx hy).mpr h2), if_pos h2]; rfl
    · rw [if_neg (fun q => h2 ((i64eq hx hy).mp q)), if_neg h2]; rfl
theorem Ev.lcmp {x y : Int} (hd : decode M.2.2.1 pc = .ok (.lcmp, 1)) (hn : pc + 1 = pc') (hx : I64 x) (hy : I64 y) (k : Ev M d pc' ls (iv (lgc x y) :: st) h Post) : Ev M d pc ls (jv y :: jv x :: st) h Post := by
  subst hn
  intro p l e R s m args below meth c D cy ad A Qc F H locs lsA X
  refine W.lcmp F.1 F.2.1 hd ?_
  rw [lgcE hx hy]
  exact k p l e R s m args below meth c D cy ad A Qc F H locs lsA X
theorem Ev.goto {off : Int} (hd : decode M.2.2.1 pc = .ok (.goto off, 3)) (hn : (pc : Int) + off = (pc' : Int)) (k : Ev M d pc' ls st h Post) : Ev M d pc ls st h Post := by
  intro p l e R s m args below meth c D cy ad A Qc F H locs lsA X
  exact lv_goto F.1 F.2.1 hd hn (k p l e R s m args below meth c D cy ad A Qc F H locs lsA X)
theorem i32ne {x y : Int} (hx : I32 x) (hy : I32 y) : Int32.ofInt x ≠ Int32.ofInt y ↔ x ≠ y := not_congr (i32eq hx hy)
theorem i32z : I32 0 := ⟨by decide, by decide⟩
theorem Ev.icmp_eq {x y : Int} {off : Int} {tgt : Nat} (hd : decode M.2.2.1 pc = .ok (.if_icmp .eq off, 3)) (hn : pc + 3 = pc') (ht : (pc : Int) + off = (tgt : Int)) (hx : I32 x) (hy : I32 y) (kt : (x = y) → Ev M d tgt ls st h Post) (kf : ¬ (x = y) → Ev M d pc' ls st h Post) : Ev M d pc ls (iv y :: iv x :: st) h Post := by
  subst hn
  intro p l e R s m args below meth c D cy ad A Qc F H locs lsA X
  refine lv_icmp_eq F.1 F.2.1 hd ht (fun q => ?_) (fun q => ?_)
  · exact kt ((i32eq hx hy).mp q) p l e R s m args below meth c D cy ad A Qc F H locs lsA X
  · exact kf (fun z => q ((i32eq hx hy).mpr z)) p l e R s m args below meth c D cy ad A Qc F H locs lsA X
theorem Ev.icmp_ne {x y : Int} {off : Int} {tgt : Nat} (hd : decode M.2.2.1 pc = .ok (.if_icmp .ne off, 3)) (hn : pc + 3 = pc') (ht : (pc : Int) + off = (tgt : Int)) (hx : I32 x) (hy : I32 y) (kt : (x ≠ y) → Ev M d tgt ls st h Post) (kf : (x = y) → Ev M d pc' ls st h Post) : Ev M d pc ls (iv y :: iv x :: st) h Post := by
  subst hn
  intro p l e R s m args below meth c D cy ad A Qc F H locs lsA X
  refine lv_icmp_ne F.1 F.2.1 hd ht (fun q => ?_) (fun q => ?_)
  · exact kt ((i32ne hx hy).mp q) p l e R s m args below meth c D cy ad A Qc F H locs lsA X
  · exact kf (((i32eq hx hy)).mp q) p l e R s m args below meth c D cy ad A Qc F H locs lsA X
theorem Ev.icmp_lt {x y : Int} {off : Int} {tgt : Nat} (hd : decode M.2.2.1 pc = .ok (.if_icmp .lt off, 3)) (hn : pc + 3 = pc') (ht : (pc : Int) + off = (tgt : Int)) (hx : I32 x) (hy : I32 y) (kt : (x < y) → Ev M d tgt ls st h Post) (kf : ¬ (x < y) → Ev M d pc' ls st h Post) : Ev M d pc ls (iv y :: iv x :: st) h Post := by
  subst hn
  intro p l e R s m args below meth c D cy ad A Qc F H locs lsA X
  refine lv_icmp_lt F.1 F.2.1 hd ht (fun q => ?_) (fun q => ?_)
  · exact kt ((i32lt hx hy).mp q) p l e R s m args below meth c D cy ad A Qc F H locs lsA X
  · exact kf (fun z => q ((i32lt hx hy).mpr z)) p l e R s m args below meth c D cy ad A Qc F H locs lsA X
theorem Ev.icmp_ge {x y : Int} {off : Int} {tgt : Nat} (hd : decode M.2.2.1 pc = .ok (.if_icmp .ge off, 3)) (hn : pc + 3 = pc') (ht : (pc : Int) + off = (tgt : Int)) (hx : I32 x) (hy : I32 y) (kt : (y ≤ x) → Ev M d tgt ls st h Post) (kf : ¬ (y ≤ x) → Ev M d pc' ls st h Post) : Ev M d pc ls (iv y :: iv x :: st) h Post := by
  subst hn
  intro p l e R s m args below meth c D cy ad A Qc F H locs lsA X
  refine lv_icmp_ge F.1 F.2.1 hd ht (fun q => ?_) (fun q => ?_)
  · exact kt ((i32le hy hx).mp q) p l e R s m args below meth c D cy ad A Qc F H locs lsA X
  · exact kf (fun z => q ((i32le hy hx).mpr z)) p l e R s m args below meth c D cy ad A Qc F H locs lsA X
theorem Ev.icmp_gt {x y : Int} {off : Int} {tgt : Nat} (hd : decode M.2.2.1 pc = .ok (.if_icmp .gt off, 3)) (hn : pc + 3 = pc') (ht : (pc : Int) + off = (tgt : Int)) (hx : I32 x) (hy : I32 y) (kt : (y < x) → Ev M d tgt ls st h Post) (kf : ¬ (y < x) → Ev M d pc' ls st h Post) : Ev M d pc ls (iv y :: iv x :: st) h Post := by
  subst hn
  intro p l e R s m args below meth c D cy ad A Qc F H locs lsA X
  refine lv_icmp_gt F.1 F.2.1 hd ht (fun q => ?_) (fun q => ?_)
  · exact kt ((i32lt hy hx).mp q) p l e R s m args below meth c D cy ad A Qc F H locs lsA X
  · exact kf (fun z => q ((i32lt hy hx).mpr z)) p l e R s m args below meth c D cy ad A Qc F H locs lsA X
theorem Ev.icmp_le {x y : Int} {off : Int} {tgt : Nat} (hd : decode M.2.2.1 pc = .ok (.if_icmp .le off, 3)) (hn : pc + 3 = pc') (ht : (pc : Int) + off = (tgt : Int)) (hx : I32 x) (hy : I32 y) (kt : (x ≤ y) → Ev M d tgt ls st h Post) (kf : ¬ (x ≤ y) → Ev M d pc' ls st h Post) : Ev M d pc ls (iv y :: iv x :: st) h Post := by
  subst hn
  intro p l e R s m args below meth c D cy ad A Qc F H locs lsA X
  refine lv_icmp_le F.1 F.2.1 hd ht (fun q => ?_) (fun q => ?_)
  · exact kt ((i32le hx hy).mp q) p l e R s m args below meth c D cy ad A Qc F H locs lsA X
  · exact kf (fun z => q ((i32le hx hy).mpr z)) p l e R s m args below meth c D cy ad A Qc F H locs lsA X
theorem Ev.if_eq {x : Int} {off : Int} {tgt : Nat} (hd : decode M.2.2.1 pc = .ok (.ifCond .eq off, 3)) (hn : pc + 3 = pc') (ht : (pc : Int) + off = (tgt : Int)) (hx : I32 x) (kt : (x = 0) → Ev M d tgt ls st h Post) (kf : ¬ (x = 0) → Ev M d pc' ls st h Post) : Ev M d pc ls (iv x :: st) h Post := by
  subst hn
  intro p l e R s m args below meth c D cy ad A Qc F H locs lsA X
  refine lv_if_eq F.1 F.2.1 hd ht (fun q => ?_) (fun q => ?_)
  · exact kt ((show _ ↔ _ from i32eq hx i32z).mp q) p l e R s m args below meth c D cy ad A Qc F H locs lsA X
  · exact kf (fun z => q ((show _ ↔ _ from i32eq hx i32z).mpr z)) p l e R s m args below meth c D cy ad A Qc F H locs lsA X
theorem Ev.if_ne {x : Int} {off : Int} {tgt : Nat} (hd : decode M.2.2.1 pc = .ok (.ifCond .ne off, 3)) (hn : pc + 3 = pc') (ht : (pc : Int) + off = (tgt : Int)) (hx : I32 x) (kt : (x ≠ 0) → Ev M d tgt ls st h Post) (kf : (x = 0) → Ev M d pc' ls st h Post) : Ev M d pc ls (iv x :: st) h Post := by
  subst hn
  intro p l e R s m args below meth c D cy ad A Qc F H locs lsA X
  refine lv_if_ne F.1 F.2.1 hd ht (fun q => ?_) (fun q => ?_)
  · exact kt ((show _ ↔ _ from i32ne hx i32z).mp q) p l e R s m args below meth c D cy ad A Qc F H locs lsA X
  · exact kf (((show _ ↔ _ from i32eq hx i32z)).mp q) p l e R s m args below meth c D cy ad A Qc F H locs lsA X
theorem Ev.if_lt {x : Int} {off : Int} {tgt : Nat} (hd : decode M.2.2.1 pc = .ok (.ifCond .lt off, 3)) (hn : pc + 3 = pc') (ht : (pc : Int) + off = (tgt : Int)) (hx : I32 x) (kt : (x < 0) → Ev M d tgt ls st h Post) (kf : ¬ (x < 0) → Ev M d pc' ls st h Post) : Ev M d pc ls (iv x :: st) h Post := by
  subst hn
  intro p l e R s m args below meth c D cy ad A Qc F H locs lsA X
  refine lv_if_lt F.1 F.2.1 hd ht (fun q => ?_) (fun q => ?_)
  · exact kt ((show _ ↔ _ from i32lt hx i32z).mp q) p l e R s m args below meth c D cy ad A Qc F H locs lsA X
  · exact kf (fun z => q ((show _ ↔ _ from i32lt hx i32z).mpr z)) p l e R s m args below meth c D cy ad A Qc F H locs lsA X
theorem Ev.if_ge {x : Int} {off : Int} {tgt : Nat} (hd : decode M.2.2.1 pc = .ok (.ifCond .ge off, 3)) (hn : pc + 3 = pc') (ht : (pc : Int) + off = (tgt : Int)) (hx : I32 x) (kt : (0 ≤ x) → Ev M d tgt ls st h Post) (kf : ¬ (0 ≤ x) → Ev M d pc' ls st h Post) : Ev M d pc ls (iv x :: st) h Post := by
  subst hn
  intro p l e R s m args below meth c D cy ad A Qc F H locs lsA X
  refine lv_if_ge F.1 F.2.1 hd ht (fun q => ?_) (fun q => ?_)
  · exact kt ((show _ ↔ _ from i32le i32z hx).mp q) p l e R s m args below meth c D cy ad A Qc F H locs lsA X
  · exact kf (fun z => q ((show _ ↔ _ from i32le i32z hx).mpr z)) p l e R s m args below meth c D cy ad A Qc F H locs lsA X
theorem Ev.if_gt {x : Int} {off : Int} {tgt : Nat} (hd : decode M.2.2.1 pc = .ok (.ifCond .gt off, 3)) (hn : pc + 3 = pc') (ht : (pc : Int) + off = (tgt : Int)) (hx : I32 x) (kt : (0 < x) → Ev M d tgt ls st h Post) (kf : ¬ (0 < x) → Ev M d pc' ls st h Post) : Ev M d pc ls (iv x :: st) h Post := by
  subst hn
  intro p l e R s m args below meth c D cy ad A Qc F H locs lsA X
  refine lv_if_gt F.1 F.2.1 hd ht (fun q => ?_) (fun q => ?_)
  · exact kt ((show _ ↔ _ from i32lt i32z hx).mp q) p l e R s m args below meth c D cy ad A Qc F H locs lsA X
  · exact kf (fun z => q ((show _ ↔ _ from i32lt i32z hx).mpr z)) p l e R s m args below meth c D cy ad A Qc F H locs lsA X
theorem Ev.if_le {x : Int} {off : Int} {tgt : Nat} (hd : decode M.2.2.1 pc = .ok (.ifCond .le off, 3)) (hn : pc + 3 = pc') (ht : (pc : Int) + off = (tgt : Int)) (hx : I32 x) (kt : (x ≤ 0) → Ev M d tgt ls st h Post) (kf : ¬ (x ≤ 0) → Ev M d pc' ls st h Post) : Ev M d pc ls (iv x :: st) h Post := by
  subst hn
  intro p l e R s m args below meth c D cy ad A Qc F H locs lsA X
  refine lv_if_le F.1 F.2.1 hd ht (fun q => ?_) (fun q => ?_)
  · exact kt ((show _ ↔ _ from i32le hx i32z).mp q) p l e R s m args below meth c D cy ad A Qc F H locs lsA X
  · exact kf (fun z => q ((show _ ↔ _ from i32le hx i32z).mpr z)) p l e R s m args below meth c D cy ad A Qc F H locs lsA X
theorem Ev.iret {x : Int} (hd : decode M.2.2.1 pc = .ok (.ireturn, 1)) (hr : M.2.2.2.2 = some .int) (hp : Post (some (iv x)) h) : Ev M d pc ls [iv x] h Post := by
  intro p l e R s m args below meth c D cy ad A Qc F H locs lsA X
  exact W.iret F.1 F.2.1 (F.2.2.2.1.trans hr) (fun t ht hW => F.2.2.2.2.2.2.2.2.2.2 _ _ t hp hW (by rw [ht]; exact X.1) (X.2.2.1.F ht)) X.2.2.1.2.2 hd F.2.2.2.2.1
theorem Ev.zret {x : Int} (hd : decode M.2.2.1 pc = .ok (.ireturn, 1)) (hr : M.2.2.2.2 = some .boolean) (hx : x = 0 ∨ x = 1) (hp : Post (some (iv x)) h) : Ev M d pc ls [iv x] h Post := by
  intro p l e R s m args below meth c D cy ad A Qc F H locs lsA X
  exact W.zret F.1 F.2.1 (F.2.2.2.1.trans hr) (by rcases hx with rfl | rfl <;> rfl) (fun t ht hW => F.2.2.2.2.2.2.2.2.2.2 _ _ t hp hW (by rw [ht]; exact X.1) (X.2.2.1.F ht)) X.2.2.1.2.2 hd F.2.2.2.2.1
theorem Ev.cret {x : Int} (hd : decode M.2.2.1 pc = .ok (.ireturn, 1)) (hr : M.2.2.2.2 = some .char) (hx : 0 ≤ x ∧ x < 65536) (hp : Post (some (iv x)) h) : Ev M d pc ls [iv x] h Post := by
  intro p l e R s m args below meth c D cy ad A Qc F H locs lsA X
  exact W.zret F.1 F.2.1 (F.2.2.2.1.trans hr) (congrArg Value.int (narC hx)) (fun t ht hW => F.2.2.2.2.2.2.2.2.2.2 _ _ t hp hW (by rw [ht]; exact X.1) (X.2.2.1.F ht)) X.2.2.1.2.2 hd F.2.2.2.2.1
theorem Ev.lret {x : Int} (hd : decode M.2.2.1 pc = .ok (.lreturn, 1)) (hr : M.2.2.2.2 = some .long) (hp : Post (some (jv x)) h) : Ev M d pc ls [jv x] h Post := by
  intro p l e R s m args below meth c D cy ad A Qc F H locs lsA X
  exact W.lret F.1 F.2.1 (F.2.2.2.1.trans hr) (fun t ht hW => F.2.2.2.2.2.2.2.2.2.2 _ _ t hp hW (by rw [ht]; exact X.1) (X.2.2.1.F ht)) X.2.2.1.2.2 hd F.2.2.2.2.1
theorem Ev.vret (hd : decode M.2.2.1 pc = .ok (.return_, 1)) (hr : M.2.2.2.2 = none) (hp : Post none h) : Ev M d pc ls [] h Post := by
  intro p l e R s m args below meth c D cy ad A Qc F H locs lsA X
  exact W.vret F.1 F.2.1 (F.2.2.2.1.trans hr) (fun t ht hW => F.2.2.2.2.2.2.2.2.2.2 _ _ t hp hW (by rw [ht]; exact X.1) (X.2.2.1.F ht)) X.2.2.1.2.2 hd F.2.2.2.2.1
end EVR
