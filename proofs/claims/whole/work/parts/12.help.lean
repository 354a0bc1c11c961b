/-! Posts, calls by the number of arguments, branches over answers yes or no, bits. -/
def PI (P : Int → Hp → Prop) : Pst := fun v h' => ∃ x, v = some (iv x) ∧ P x h'
def PJ (P : Int → Hp → Prop) : Pst := fun v h' => ∃ x, v = some (jv x) ∧ P x h'
def PV (P : Hp → Prop) : Pst := fun v h' => v = none ∧ P h'
def PE (e : Int) (h : Hp) : Pst := PI (fun x h' => x = e ∧ h' = h)
def PEJ (e : Int) (h : Hp) : Pst := PJ (fun x h' => x = e ∧ h' = h)
/-- yes, with h1 behind it; no, with h0 -/
def PB (c : Prop) (h1 h0 : Hp) : Pst := PI (fun x h' => (c ∧ x = 1 ∧ h' = h1) ∨ (¬ c ∧ x = 0 ∧ h' = h0))
theorem PB.t {c : Prop} {h1 h0 : Hp} (hc : c) : PB c h1 h0 (some (iv 1)) h1 := ⟨1, rfl, Or.inl ⟨hc, rfl, rfl⟩⟩
theorem PB.f {c : Prop} {h1 h0 : Hp} (hc : ¬ c) : PB c h1 h0 (some (iv 0)) h0 := ⟨0, rfl, Or.inr ⟨hc, rfl, rfl⟩⟩
noncomputable def bi (c : Prop) : Int := @ite _ c (Classical.propDecidable c) 1 0
theorem PE.mk {e : Int} {h : Hp} : PE e h (some (iv e)) h := ⟨e, rfl, rfl, rfl⟩
theorem PEJ.mk {e : Int} {h : Hp} : PEJ e h (some (jv e)) h := ⟨e, rfl, rfl, rfl⟩
theorem PE.of {e x : Int} {h : Hp} (hx : x = e) : PE e h (some (iv x)) h := ⟨x, rfl, hx, rfl⟩
theorem bi01 (c : Prop) : bi c = 0 ∨ bi c = 1 := by unfold bi; split <;> simp
theorem bi_i {c : Prop} [Decidable c] : bi c = if c then 1 else 0 := by unfold bi; split <;> simp_all
theorem bi_c {c d : Prop} (h : c ↔ d) : bi c = bi d := by rw [propext h]
theorem bi_t {c : Prop} (h : c) : bi c = 1 := if_pos h
theorem bi_f {c : Prop} (h : ¬ c) : bi c = 0 := if_neg h
theorem biR (c : Prop) : I32 (bi c) := by rcases bi01 c with h | h <;> rw [h] <;> exact ⟨by decide, by decide⟩
section EVX
variable {M : Mi} {d pc pc' : Nat} {ls : List (Option Value)} {h : Hp} {Post : Pst}
theorem Ev.if_eqB {st : List Value} {c : Prop} {off : Int} {tgt : Nat} (hd : decode M.2.2.1 pc = .ok (.ifCond .eq off, 3)) (hn : pc + 3 = pc') (ht : (pc : Int) + off = (tgt : Int)) (kt : ¬ c → Ev M d tgt ls st h Post) (kf : c → Ev M d pc' ls st h Post) : Ev M d pc ls (iv (bi c) :: st) h Post := by
  refine Ev.if_eq hd hn ht (biR c) (fun q => kt (fun z => ?_)) (fun q => kf ?_)
  · rw [bi_t z] at q; exact absurd q (by decide)
  · by_cases z : c
    · exact z
    · exact absurd (bi_f z) q
theorem Ev.if_neB {st : List Value} {c : Prop} {off : Int} {tgt : Nat} (hd : decode M.2.2.1 pc = .ok (.ifCond .ne off, 3)) (hn : pc + 3 = pc') (ht : (pc : Int) + off = (tgt : Int)) (kt : c → Ev M d tgt ls st h Post) (kf : ¬ c → Ev M d pc' ls st h Post) : Ev M d pc ls (iv (bi c) :: st) h Post := by
  refine Ev.if_ne hd hn ht (biR c) (fun q => kt ?_) (fun q => kf (fun z => ?_))
  · by_cases z : c
    · exact z
    · exact absurd (bi_f z) q
  · rw [bi_t z] at q; exact absurd q (by decide)
theorem lgcR (x y : Int) : I32 (lgc x y) := by unfold lgc; split <;> (try split) <;> exact ⟨by decide, by decide⟩
theorem lgc_eq {x y : Int} : lgc x y = 0 ↔ x = y := by
  unfold lgc
  split <;> (try split) <;> constructor <;> intro q <;> first | omega | (simp at q; done) | skip
theorem Ev.ifl_eq {st : List Value} {x y off : Int} {tgt pc1 : Nat} (hd0 : decode M.2.2.1 pc = .ok (.lcmp, 1)) (hn0 : pc + 1 = pc1) (hd : decode M.2.2.1 pc1 = .ok (.ifCond .eq off, 3)) (hn : pc1 + 3 = pc') (ht : (pc1 : Int) + off = (tgt : Int)) (hx : I64 x) (hy : I64 y) (kt : x = y → Ev M d tgt ls st h Post) (kf : ¬ x = y → Ev M d pc' ls st h Post) : Ev M d pc ls (jv y :: jv x :: st) h Post := by
  refine Ev.lcmp hd0 hn0 hx hy ?_
  exact Ev.if_eq hd hn ht (lgcR x y) (fun q => kt (lgc_eq.mp q)) (fun q => kf (fun z => q (lgc_eq.mpr z)))
theorem lgc_ne {x y : Int} : lgc x y ≠ 0 ↔ x ≠ y := by
  unfold lgc
  split <;> (try split) <;> constructor <;> intro q <;> first | omega | (simp at q; done) | skip
theorem Ev.ifl_ne {st : List Value} {x y off : Int} {tgt pc1 : Nat} (hd0 : decode M.2.2.1 pc = .ok (.lcmp, 1)) (hn0 : pc + 1 = pc1) (hd : decode M.2.2.1 pc1 = .ok (.ifCond .ne off, 3)) (hn : pc1 + 3 = pc') (ht : (pc1 : Int) + off = (tgt : Int)) (hx : I64 x) (hy : I64 y) (kt : x ≠ y → Ev M d tgt ls st h Post) (kf : x = y → Ev M d pc' ls st h Post) : Ev M d pc ls (jv y :: jv x :: st) h Post := by
  refine Ev.lcmp hd0 hn0 hx hy ?_
  exact Ev.if_ne hd hn ht (lgcR x y) (fun q => kt (lgc_ne.mp q)) (fun q => kf (by have := lgc_eq (x := x) (y := y); exact this.mp q))
theorem lgc_lt {x y : Int} : lgc x y < 0 ↔ x < y := by
  unfold lgc
  split <;> (try split) <;> constructor <;> intro q <;> first | omega | (simp at q; done) | skip
theorem Ev.ifl_lt {st : List Value} {x y off : Int} {tgt pc1 : Nat} (hd0 : decode M.2.2.1 pc = .ok (.lcmp, 1)) (hn0 : pc + 1 = pc1) (hd : decode M.2.2.1 pc1 = .ok (.ifCond .lt off, 3)) (hn : pc1 + 3 = pc') (ht : (pc1 : Int) + off = (tgt : Int)) (hx : I64 x) (hy : I64 y) (kt : x < y → Ev M d tgt ls st h Post) (kf : ¬ x < y → Ev M d pc' ls st h Post) : Ev M d pc ls (jv y :: jv x :: st) h Post := by
  refine Ev.lcmp hd0 hn0 hx hy ?_
  exact Ev.if_lt hd hn ht (lgcR x y) (fun q => kt (lgc_lt.mp q)) (fun q => kf (fun z => q (lgc_lt.mpr z)))
theorem lgc_ge {x y : Int} : 0 ≤ lgc x y ↔ y ≤ x := by
  unfold lgc
  split <;> (try split) <;> constructor <;> intro q <;> first | omega | (simp at q; done) | skip
theorem Ev.ifl_ge {st : List Value} {x y off : Int} {tgt pc1 : Nat} (hd0 : decode M.2.2.1 pc = .ok (.lcmp, 1)) (hn0 : pc + 1 = pc1) (hd : decode M.2.2.1 pc1 = .ok (.ifCond .ge off, 3)) (hn : pc1 + 3 = pc') (ht : (pc1 : Int) + off = (tgt : Int)) (hx : I64 x) (hy : I64 y) (kt : y ≤ x → Ev M d tgt ls st h Post) (kf : ¬ y ≤ x → Ev M d pc' ls st h Post) : Ev M d pc ls (jv y :: jv x :: st) h Post := by
  refine Ev.lcmp hd0 hn0 hx hy ?_
  exact Ev.if_ge hd hn ht (lgcR x y) (fun q => kt (lgc_ge.mp q)) (fun q => kf (fun z => q (lgc_ge.mpr z)))
theorem lgc_gt {x y : Int} : 0 < lgc x y ↔ y < x := by
  unfold lgc
  split <;> (try split) <;> constructor <;> intro q <;> first | omega | (simp at q; done) | skip
theorem Ev.ifl_gt {st : List Value} {x y off : Int} {tgt pc1 : Nat} (hd0 : decode M.2.2.1 pc = .ok (.lcmp, 1)) (hn0 : pc + 1 = pc1) (hd : decode M.2.2.1 pc1 = .ok (.ifCond .gt off, 3)) (hn : pc1 + 3 = pc') (ht : (pc1 : Int) + off = (tgt : Int)) (hx : I64 x) (hy : I64 y) (kt : y < x → Ev M d tgt ls st h Post) (kf : ¬ y < x → Ev M d pc' ls st h Post) : Ev M d pc ls (jv y :: jv x :: st) h Post := by
  refine Ev.lcmp hd0 hn0 hx hy ?_
  exact Ev.if_gt hd hn ht (lgcR x y) (fun q => kt (lgc_gt.mp q)) (fun q => kf (fun z => q (lgc_gt.mpr z)))
theorem lgc_le {x y : Int} : lgc x y ≤ 0 ↔ x ≤ y := by
  unfold lgc
  split <;> (try split) <;> constructor <;> intro q <;> first | omega | (simp at q; done) | skip
theorem Ev.ifl_le {st : List Value} {x y off : Int} {tgt pc1 : Nat} (hd0 : decode M.2.2.1 pc = .ok (.lcmp, 1)) (hn0 : pc + 1 = pc1) (hd : decode M.2.2.1 pc1 = .ok (.ifCond .le off, 3)) (hn : pc1 + 3 = pc') (ht : (pc1 : Int) + off = (tgt : Int)) (hx : I64 x) (hy : I64 y) (kt : x ≤ y → Ev M d tgt ls st h Post) (kf : ¬ x ≤ y → Ev M d pc' ls st h Post) : Ev M d pc ls (jv y :: jv x :: st) h Post := by
  refine Ev.lcmp hd0 hn0 hx hy ?_
  exact Ev.if_le hd hn ht (lgcR x y) (fun q => kt (lgc_le.mp q)) (fun q => kf (fun z => q (lgc_le.mpr z)))
theorem Ev.cv0I {M' : Mi} {y : MethodName} {idx id ci d' : Nat} {ks : List Nat} {T : u_T} {N : Nat} {rest : List Value} {P : Int → Hp → Prop} (hd : decode M.2.2.1 pc = .ok (.invokevirtual idx, 3)) (hn : pc + 3 = pc') (hw : CWv M.2.1 idx y M' 0) (hne : (entA [.ref id]).length ≤ M'.2.2.2.1) (hdd : d' + 1 ≤ d) (hy : M.1.2[id]? = some (.inl (ci, ks))) (hcl : vwCl[ci]? = some (y.cls, T, N)) (hly : M'.1 = M.1) (hst : (rest.map fun v => v.category).sum ≤ 8) (hE : Ev M' d' 0 (entL [.ref id] M'.2.2.2.1) [] h (PI P)) (kk : ∀ x h', P x h' → Ev M d pc' ls (iv x :: rest) h' Post) : Ev M d pc ls (.ref id :: rest) h Post := by
  refine Ev.callV (as := []) rfl hd hn hw rfl hne hdd hy hcl hly hst hE ?_
  rintro v h' ⟨x, rfl, hp⟩
  exact kk x h' hp
theorem Ev.cv0J {M' : Mi} {y : MethodName} {idx id ci d' : Nat} {ks : List Nat} {T : u_T} {N : Nat} {rest : List Value} {P : Int → Hp → Prop} (hd : decode M.2.2.1 pc = .ok (.invokevirtual idx, 3)) (hn : pc + 3 = pc') (hw : CWv M.2.1 idx y M' 0) (hne : (entA [.ref id]).length ≤ M'.2.2.2.1) (hdd : d' + 1 ≤ d) (hy : M.1.2[id]? = some (.inl (ci, ks))) (hcl : vwCl[ci]? = some (y.cls, T, N)) (hly : M'.1 = M.1) (hst : (rest.map fun v => v.category).sum ≤ 8) (hE : Ev M' d' 0 (entL [.ref id] M'.2.2.2.1) [] h (PJ P)) (kk : ∀ x h', P x h' → Ev M d pc' ls (jv x :: rest) h' Post) : Ev M d pc ls (.ref id :: rest) h Post := by
  refine Ev.callV (as := []) rfl hd hn hw rfl hne hdd hy hcl hly hst hE ?_
  rintro v h' ⟨x, rfl, hp⟩
  exact kk x h' hp
theorem Ev.cv0V {M' : Mi} {y : MethodName} {idx id ci d' : Nat} {ks : List Nat} {T : u_T} {N : Nat} {rest : List Value} {P : Hp → Prop} (hd : decode M.2.2.1 pc = .ok (.invokevirtual idx, 3)) (hn : pc + 3 = pc') (hw : CWv M.2.1 idx y M' 0) (hne : (entA [.ref id]).length ≤ M'.2.2.2.1) (hdd : d' + 1 ≤ d) (hy : M.1.2[id]? = some (.inl (ci, ks))) (hcl : vwCl[ci]? = some (y.cls, T, N)) (hly : M'.1 = M.1) (hst : (rest.map fun v => v.category).sum ≤ 8) (hE : Ev M' d' 0 (entL [.ref id] M'.2.2.2.1) [] h (PV P)) (kk : ∀ h', P h' → Ev M d pc' ls rest h' Post) : Ev M d pc ls (.ref id :: rest) h Post := by
  refine Ev.callV (as := []) rfl hd hn hw rfl hne hdd hy hcl hly hst hE ?_
  rintro v h' ⟨rfl, hp⟩
  exact kk h' hp
theorem Ev.cv0E {M' : Mi} {y : MethodName} {idx id ci d' : Nat} {ks : List Nat} {T : u_T} {N : Nat} {rest : List Value} {e : Int} (hd : decode M.2.2.1 pc = .ok (.invokevirtual idx, 3)) (hn : pc + 3 = pc') (hw : CWv M.2.1 idx y M' 0) (hne : (entA [.ref id]).length ≤ M'.2.2.2.1) (hdd : d' + 1 ≤ d) (hy : M.1.2[id]? = some (.inl (ci, ks))) (hcl : vwCl[ci]? = some (y.cls, T, N)) (hly : M'.1 = M.1) (hst : (rest.map fun v => v.category).sum ≤ 8) (hE : Ev M' d' 0 (entL [.ref id] M'.2.2.2.1) [] h (PE e h)) (kk : Ev M d pc' ls (iv e :: rest) h Post) : Ev M d pc ls (.ref id :: rest) h Post := by
  refine Ev.callV (as := []) rfl hd hn hw rfl hne hdd hy hcl hly hst hE ?_
  rintro v h' ⟨x, rfl, rfl, rfl⟩
  exact kk
theorem Ev.cv0P {M' : Mi} {y : MethodName} {idx id ci d' : Nat} {ks : List Nat} {T : u_T} {N : Nat} {rest : List Value} {cc : Prop} {h1 h0 : Hp} (hd : decode M.2.2.1 pc = .ok (.invokevirtual idx, 3)) (hn : pc + 3 = pc') (hw : CWv M.2.1 idx y M' 0) (hne : (entA [.ref id]).length ≤ M'.2.2.2.1) (hdd : d' + 1 ≤ d) (hy : M.1.2[id]? = some (.inl (ci, ks))) (hcl : vwCl[ci]? = some (y.cls, T, N)) (hly : M'.1 = M.1) (hst : (rest.map fun v => v.category).sum ≤ 8) (hE : Ev M' d' 0 (entL [.ref id] M'.2.2.2.1) [] h (PB cc h1 h0)) (kt : cc → Ev M d pc' ls (iv 1 :: rest) h1 Post) (kf : ¬ cc → Ev M d pc' ls (iv 0 :: rest) h0 Post) : Ev M d pc ls (.ref id :: rest) h Post := by
  refine Ev.callV (as := []) rfl hd hn hw rfl hne hdd hy hcl hly hst hE ?_
  rintro v h' ⟨x, rfl, ⟨hc, rfl, rfl⟩ | ⟨hc, rfl, rfl⟩⟩
  · exact kt hc
  · exact kf hc
theorem Ev.cv0F {M' : Mi} {y : MethodName} {idx id ci d' : Nat} {ks : List Nat} {T : u_T} {N : Nat} {rest : List Value} {e : Int} (hd : decode M.2.2.1 pc = .ok (.invokevirtual idx, 3)) (hn : pc + 3 = pc') (hw : CWv M.2.1 idx y M' 0) (hne : (entA [.ref id]).length ≤ M'.2.2.2.1) (hdd : d' + 1 ≤ d) (hy : M.1.2[id]? = some (.inl (ci, ks))) (hcl : vwCl[ci]? = some (y.cls, T, N)) (hly : M'.1 = M.1) (hst : (rest.map fun v => v.category).sum ≤ 8) (hE : Ev M' d' 0 (entL [.ref id] M'.2.2.2.1) [] h (PEJ e h)) (kk : Ev M d pc' ls (jv e :: rest) h Post) : Ev M d pc ls (.ref id :: rest) h Post := by
  refine Ev.callV (as := []) rfl hd hn hw rfl hne hdd hy hcl hly hst hE ?_
  rintro v h' ⟨x, rfl, rfl, rfl⟩
  exact kk
theorem Ev.cv1I {M' : Mi} {y : MethodName} {idx id ci d' : Nat} {ks : List Nat} {T : u_T} {N : Nat} {a1 : Value} {rest : List Value} {P : Int → Hp → Prop} (hd : decode M.2.2.1 pc = .ok (.invokevirtual idx, 3)) (hn : pc + 3 = pc') (hw : CWv M.2.1 idx y M' 1) (hne : (entA [.ref id, a1]).length ≤ M'.2.2.2.1) (hdd : d' + 1 ≤ d) (hy : M.1.2[id]? = some (.inl (ci, ks))) (hcl : vwCl[ci]? = some (y.cls, T, N)) (hly : M'.1 = M.1) (hst : (rest.map fun v => v.category).sum ≤ 8) (hE : Ev M' d' 0 (entL [.ref id, a1] M'.2.2.2.1) [] h (PI P)) (kk : ∀ x h', P x h' → Ev M d pc' ls (iv x :: rest) h' Post) : Ev M d pc ls (a1 :: .ref id :: rest) h Post := by
  refine Ev.callV (as := [a1]) rfl hd hn hw rfl hne hdd hy hcl hly hst hE ?_
  rintro v h' ⟨x, rfl, hp⟩
  exact kk x h' hp
theorem Ev.cv1J {M' : Mi} {y : MethodName} {idx id ci d' : Nat} {ks : List Nat} {T : u_T} {N : Nat} {a1 : Value} {rest : List Value} {P : Int → Hp → Prop} (hd : decode M.2.2.1 pc = .ok (.invokevirtual idx, 3)) (hn : pc + 3 = pc') (hw : CWv M.2.1 idx y M' 1) (hne : (entA [.ref id, a1]).length ≤ M'.2.2.2.1) (hdd : d' + 1 ≤ d) (hy : M.1.2[id]? = some (.inl (ci, ks))) (hcl : vwCl[ci]? = some (y.cls, T, N)) (hly : M'.1 = M.1) (hst : (rest.map fun v => v.category).sum ≤ 8) (hE : Ev M' d' 0 (entL [.ref id, a1] M'.2.2.2.1) [] h (PJ P)) (kk : ∀ x h', P x h' → Ev M d pc' ls (jv x :: rest) h' Post) : Ev M d pc ls (a1 :: .ref id :: rest) h Post := by
  refine Ev.callV (as := [a1]) rfl hd hn hw rfl hne hdd hy hcl hly hst hE ?_
  rintro v h' ⟨x, rfl, hp⟩
  exact kk x h' hp
theorem Ev.cv1V {M' : Mi} {y : MethodName} {idx id ci d' : Nat} {ks : List Nat} {T : u_T} {N : Nat} {a1 : Value} {rest : List Value} {P : Hp → Prop} (hd : decode M.2.2.1 pc = .ok (.invokevirtual idx, 3)) (hn : pc + 3 = pc') (hw : CWv M.2.1 idx y M' 1) (hne : (entA [.ref id, a1]).length ≤ M'.2.2.2.1) (hdd : d' + 1 ≤ d) (hy : M.1.2[id]? = some (.inl (ci, ks))) (hcl : vwCl[ci]? = some (y.cls, T, N)) (hly : M'.1 = M.1) (hst : (rest.map fun v => v.category).sum ≤ 8) (hE : Ev M' d' 0 (entL [.ref id, a1] M'.2.2.2.1) [] h (PV P)) (kk : ∀ h', P h' → Ev M d pc' ls rest h' Post) : Ev M d pc ls (a1 :: .ref id :: rest) h Post := by
  refine Ev.callV (as := [a1]) rfl hd hn hw rfl hne hdd hy hcl hly hst hE ?_
  rintro v h' ⟨rfl, hp⟩
  exact kk h' hp
theorem Ev.cv1E {M' : Mi} {y : MethodName} {idx id ci d' : Nat} {ks : List Nat} {T : u_T} {N : Nat} {a1 : Value} {rest : List Value} {e : Int} (hd : decode M.2.2.1 pc = .ok (.invokevirtual idx, 3)) (hn : pc + 3 = pc') (hw : CWv M.2.1 idx y M' 1) (hne : (entA [.ref id, a1]).length ≤ M'.2.2.2.1) (hdd : d' + 1 ≤ d) (hy : M.1.2[id]? = some (.inl (ci, ks))) (hcl : vwCl[ci]? = some (y.cls, T, N)) (hly : M'.1 = M.1) (hst : (rest.map fun v => v.category).sum ≤ 8) (hE : Ev M' d' 0 (entL [.ref id, a1] M'.2.2.2.1) [] h (PE e h)) (kk : Ev M d pc' ls (iv e :: rest) h Post) : Ev M d pc ls (a1 :: .ref id :: rest) h Post := by
  refine Ev.callV (as := [a1]) rfl hd hn hw rfl hne hdd hy hcl hly hst hE ?_
  rintro v h' ⟨x, rfl, rfl, rfl⟩
  exact kk
theorem Ev.cv1P {M' : Mi} {y : MethodName} {idx id ci d' : Nat} {ks : List Nat} {T : u_T} {N : Nat} {a1 : Value} {rest : List Value} {cc : Prop} {h1 h0 : Hp} (hd : decode M.2.2.1 pc = .ok (.invokevirtual idx, 3)) (hn : pc + 3 = pc') (hw : CWv M.2.1 idx y M' 1) (hne : (entA [.ref id, a1]).length ≤ M'.2.2.2.1) (hdd : d' + 1 ≤ d) (hy : M.1.2[id]? = some (.inl (ci, ks))) (hcl : vwCl[ci]? = some (y.cls, T, N)) (hly : M'.1 = M.1) (hst : (rest.map fun v => v.category).sum ≤ 8) (hE : Ev M' d' 0 (entL [.ref id, a1] M'.2.2.2.1) [] h (PB cc h1 h0)) (kt : cc → Ev M d pc' ls (iv 1 :: rest) h1 Post) (kf : ¬ cc → Ev M d pc' ls (iv 0 :: rest) h0 Post) : Ev M d pc ls (a1 :: .ref id :: rest) h Post := by
  refine Ev.callV (as := [a1]) rfl hd hn hw rfl hne hdd hy hcl hly hst hE ?_
  rintro v h' ⟨x, rfl, ⟨hc, rfl, rfl⟩ | ⟨hc, rfl, rfl⟩⟩
  · exact kt hc
  · exact kf hc
theorem Ev.cv1F {M' : Mi} {y : MethodName} {idx id ci d' : Nat} {ks : List Nat} {T : u_T} {N : Nat} {a1 : Value} {rest : List Value} {e : Int} (hd : decode M.2.2.1 pc = .ok (.invokevirtual idx, 3)) (hn : pc + 3 = pc') (hw : CWv M.2.1 idx y M' 1) (hne : (entA [.ref id, a1]).length ≤ M'.2.2.2.1) (hdd : d' + 1 ≤ d) (hy : M.1.2[id]? = some (.inl (ci, ks))) (hcl : vwCl[ci]? = some (y.cls, T, N)) (hly : M'.1 = M.1) (hst : (rest.map fun v => v.category).sum ≤ 8) (hE : Ev M' d' 0 (entL [.ref id, a1] M'.2.2.2.1) [] h (PEJ e h)) (kk : Ev M d pc' ls (jv e :: rest) h Post) : Ev M d pc ls (a1 :: .ref id :: rest) h Post := by
  refine Ev.callV (as := [a1]) rfl hd hn hw rfl hne hdd hy hcl hly hst hE ?_
  rintro v h' ⟨x, rfl, rfl, rfl⟩
  exact kk
theorem Ev.cv2I {M' : Mi} {y : MethodName} {idx id ci d' : Nat} {ks : List Nat} {T : u_T} {N : Nat} {a1 a2 : Value} {rest : List Value} {P : Int → Hp → Prop} (hd : decode M.2.2.1 pc = .ok (.invokevirtual idx, 3)) (hn : pc + 3 = pc') (hw : CWv M.2.1 idx y M' 2) (hne : (entA [.ref id, a1, a2]).length ≤ M'.2.2.2.1) (hdd : d' + 1 ≤ d) (hy : M.1.2[id]? = some (.inl (ci, ks))) (hcl : vwCl[ci]? = some (y.cls, T, N)) (hly : M'.1 = M.1) (hst : (rest.map fun v => v.category).sum ≤ 8) (hE : Ev M' d' 0 (entL [.ref id, a1, a2] M'.2.2.2.1) [] h (PI P)) (kk : ∀ x h', P x h' → Ev M d pc' ls (iv x :: rest) h' Post) : Ev M d pc ls (a2 :: a1 :: .ref id :: rest) h Post := by
  refine Ev.callV (as := [a1, a2]) rfl hd hn hw rfl hne hdd hy hcl hly hst hE ?_
  rintro v h' ⟨x, rfl, hp⟩
  exact kk x h' hp
theorem Ev.cv2J {M' : Mi} {y : MethodName} {idx id ci d' : Nat} {ks : List Nat} {T : u_T} {N : Nat} {a1 a2 : Value} {rest : List Value} {P : Int → Hp → Prop} (hd : decode M.2.2.1 pc = .ok (.invokevirtual idx, 3)) (hn : pc + 3 = pc') (hw : CWv M.2.1 idx y M' 2) (hne : (entA [.ref id, a1, a2]).length ≤ M'.2.2.2.1) (hdd : d' + 1 ≤ d) (hy : M.1.2[id]? = some (.inl (ci, ks))) (hcl : vwCl[ci]? = some (y.cls, T, N)) (hly : M'.1 = M.1) (hst : (rest.map fun v => v.category).sum ≤ 8) (hE : Ev M' d' 0 (entL [.ref id, a1, a2] M'.2.2.2.1) [] h (PJ P)) (kk : ∀ x h', P x h' → Ev M d pc' ls (jv x :: rest) h' Post) : Ev M d pc ls (a2 :: a1 :: .ref id :: rest) h Post := by
  refine Ev.callV (as := [a1, a2]) rfl hd hn hw rfl hne hdd hy hcl hly hst hE ?_
  rintro v h' ⟨x, rfl, hp⟩
  exact kk x h' hp
theorem Ev.cv2V {M' : Mi} {y : MethodName} {idx id ci d' : Nat} {ks : List Nat} {T : u_T} {N : Nat} {a1 a2 : Value} {rest : List Value} {P : Hp → Prop} (hd : decode M.2.2.1 pc = .ok (.invokevirtual idx, 3)) (hn : pc + 3 = pc') (hw : CWv M.2.1 idx y M' 2) (hne : (entA [.ref id, a1, a2]).length ≤ M'.2.2.2.1) (hdd : d' + 1 ≤ d) (hy : M.1.2[id]? = some (.inl (ci, ks))) (hcl : vwCl[ci]? = some (y.cls, T, N)) (hly : M'.1 = M.1) (hst : (rest.map fun v => v.category).sum ≤ 8) (hE : Ev M' d' 0 (entL [.ref id, a1, a2] M'.2.2.2.1) [] h (PV P)) (kk : ∀ h', P h' → Ev M d pc' ls rest h' Post) : Ev M d pc ls (a2 :: a1 :: .ref id :: rest) h Post := by
  refine Ev.callV (as := [a1, a2]) rfl hd hn hw rfl hne hdd hy hcl hly hst hE ?_
  rintro v h' ⟨rfl, hp⟩
  exact kk h' hp
theorem Ev.cv2E {M' : Mi} {y : MethodName} {idx id ci d' : Nat} {ks : List Nat} {T : u_T} {N : Nat} {a1 a2 : Value} {rest : List Value} {e : Int} (hd : decode M.2.2.1 pc = .ok (.invokevirtual idx, 3)) (hn : pc + 3 = pc') (hw : CWv M.2.1 idx y M' 2) (hne : (entA [.ref id, a1, a2]).length ≤ M'.2.2.2.1) (hdd : d' + 1 ≤ d) (hy : M.1.2[id]? = some (.inl (ci, ks))) (hcl : vwCl[ci]? = some (y.cls, T, N)) (hly : M'.1 = M.1) (hst : (rest.map fun v => v.category).sum ≤ 8) (hE : Ev M' d' 0 (entL [.ref id, a1, a2] M'.2.2.2.1) [] h (PE e h)) (kk : Ev M d pc' ls (iv e :: rest) h Post) : Ev M d pc ls (a2 :: a1 :: .ref id :: rest) h Post := by
  refine Ev.callV (as := [a1, a2]) rfl hd hn hw rfl hne hdd hy hcl hly hst hE ?_
  rintro v h' ⟨x, rfl, rfl, rfl⟩
  exact kk
theorem Ev.cv2P {M' : Mi} {y : MethodName} {idx id ci d' : Nat} {ks : List Nat} {T : u_T} {N : Nat} {a1 a2 : Value} {rest : List Value} {cc : Prop} {h1 h0 : Hp} (hd : decode M.2.2.1 pc = .ok (.invokevirtual idx, 3)) (hn : pc + 3 = pc') (hw : CWv M.2.1 idx y M' 2) (hne : (entA [.ref id, a1, a2]).length ≤ M'.2.2.2.1) (hdd : d' + 1 ≤ d) (hy : M.1.2[id]? = some (.inl (ci, ks))) (hcl : vwCl[ci]? = some (y.cls, T, N)) (hly : M'.1 = M.1) (hst : (rest.map fun v => v.category).sum ≤ 8) (hE : Ev M' d' 0 (entL [.ref id, a1, a2] M'.2.2.2.1) [] h (PB cc h1 h0)) (kt : cc → Ev M d pc' ls (iv 1 :: rest) h1 Post) (kf : ¬ cc → Ev M d pc' ls (iv 0 :: rest) h0 Post) : Ev M d pc ls (a2 :: a1 :: .ref id :: rest) h Post := by
  refine Ev.callV (as := [a1, a2]) rfl hd hn hw rfl hne hdd hy hcl hly hst hE ?_
  rintro v h' ⟨x, rfl, ⟨hc, rfl, rfl⟩ | ⟨hc, rfl, rfl⟩⟩
  · exact kt hc
  · exact kf hc
theorem Ev.cv2F {M' : Mi} {y : MethodName} {idx id ci d' : Nat} {ks : List Nat} {T : u_T} {N : Nat} {a1 a2 : Value} {rest : List Value} {e : Int} (hd : decode M.2.2.1 pc = .ok (.invokevirtual idx, 3)) (hn : pc + 3 = pc') (hw : CWv M.2.1 idx y M' 2) (hne : (entA [.ref id, a1, a2]).length ≤ M'.2.2.2.1) (hdd : d' + 1 ≤ d) (hy : M.1.2[id]? = some (.inl (ci, ks))) (hcl : vwCl[ci]? = some (y.cls, T, N)) (hly : M'.1 = M.1) (hst : (rest.map fun v => v.category).sum ≤ 8) (hE : Ev M' d' 0 (entL [.ref id, a1, a2] M'.2.2.2.1) [] h (PEJ e h)) (kk : Ev M d pc' ls (jv e :: rest) h Post) : Ev M d pc ls (a2 :: a1 :: .ref id :: rest) h Post := by
  refine Ev.callV (as := [a1, a2]) rfl hd hn hw rfl hne hdd hy hcl hly hst hE ?_
  rintro v h' ⟨x, rfl, rfl, rfl⟩
  exact kk
theorem Ev.cv3I {M' : Mi} {y : MethodName} {idx id ci d' : Nat} {ks : List Nat} {T : u_T} {N : Nat} {a1 a2 a3 : Value} {rest : List Value} {P : Int → Hp → Prop} (hd : decode M.2.2.1 pc = .ok (.invokevirtual idx, 3)) (hn : pc + 3 = pc') (hw : CWv M.2.1 idx y M' 3) (hne : (entA [.ref id, a1, a2, a3]).length ≤ M'.2.2.2.1) (hdd : d' + 1 ≤ d) (hy : M.1.2[id]? = some (.inl (ci, ks))) (hcl : vwCl[ci]? = some (y.cls, T, N)) (hly : M'.1 = M.1) (hst : (rest.map fun v => v.category).sum ≤ 8) (hE : Ev M' d' 0 (entL [.ref id, a1, a2, a3] M'.2.2.2.1) [] h (PI P)) (kk : ∀ x h', P x h' → Ev M d pc' ls (iv x :: rest) h' Post) : Ev M d pc ls (a3 :: a2 :: a1 :: .ref id :: rest) h Post := by
  refine Ev.callV (as := [a1, a2, a3]) rfl hd hn hw rfl hne hdd hy hcl hly hst hE ?_
  rintro v h' ⟨x, rfl, hp⟩
  exact kk x h' hp
theorem Ev.cv3J {M' : Mi} {y : MethodName} {idx id ci d' : Nat} {ks : List Nat} {T : u_T} {N : Nat} {a1 a2 a3 : Value} {rest : List Value} {P : Int → Hp → Prop} (hd : decode M.2.2.1 pc = .ok (.invokevirtual idx, 3)) (hn : pc + 3 = pc') (hw : CWv M.2.1 idx y M' 3) (hne : (entA [.ref id, a1, a2, a3]).length ≤ M'.2.2.2.1) (hdd : d' + 1 ≤ d) (hy : M.1.2[id]? = some (.inl (ci, ks))) (hcl : vwCl[ci]? = some (y.cls, T, N)) (hly : M'.1 = M.1) (hst : (rest.map fun v => v.category).sum ≤ 8) (hE : Ev M' d' 0 (entL [.ref id, a1, a2, a3] M'.2.2.2.1) [] h (PJ P)) (kk : ∀ x h', P x h' → Ev M d pc' ls (jv x :: rest) h' Post) : Ev M d pc ls (a3 :: a2 :: a1 :: .ref id :: rest) h Post := by
  refine Ev.callV (as := [a1, a2, a3]) rfl hd hn hw rfl hne hdd hy hcl hly hst hE ?_
  rintro v h' ⟨x, rfl, hp⟩
  exact kk x h' hp
theorem Ev.cv3V {M' : Mi} {y : MethodName} {idx id ci d' : Nat} {ks : List Nat} {T : u_T} {N : Nat} {a1 a2 a3 : Value} {rest : List Value} {P : Hp → Prop} (hd : decode M.2.2.1 pc = .ok (.invokevirtual idx, 3)) (hn : pc + 3 = pc') (hw : CWv M.2.1 idx y M' 3) (hne : (entA [.ref id, a1, a2, a3]).length ≤ M'.2.2.2.1) (hdd : d' + 1 ≤ d) (hy : M.1.2[id]? = some (.inl (ci, ks))) (hcl : vwCl[ci]? = some (y.cls, T, N)) (hly : M'.1 = M.1) (hst : (rest.map fun v => v.category).sum ≤ 8) (hE : Ev M' d' 0 (entL [.ref id, a1, a2, a3] M'.2.2.2.1) [] h (PV P)) (kk : ∀ h', P h' → Ev M d pc' ls rest h' Post) : Ev M d pc ls (a3 :: a2 :: a1 :: .ref id :: rest) h Post := by
  refine Ev.callV (as := [a1, a2, a3]) rfl hd hn hw rfl hne hdd hy hcl hly hst hE ?_
  rintro v h' ⟨rfl, hp⟩
  exact kk h' hp
theorem Ev.cv3E {M' : Mi} {y : MethodName} {idx id ci d' : Nat} {ks : List Nat} {T : u_T} {N : Nat} {a1 a2 a3 : Value} {rest : List Value} {e : Int} (hd : decode M.2.2.1 pc = .ok (.invokevirtual idx, 3)) (hn : pc + 3 = pc') (hw : CWv M.2.1 idx y M' 3) (hne : (entA [.ref id, a1, a2, a3]).length ≤ M'.2.2.2.1) (hdd : d' + 1 ≤ d) (hy : M.1.2[id]? = some (.inl (ci, ks))) (hcl : vwCl[ci]? = some (y.cls, T, N)) (hly : M'.1 = M.1) (hst : (rest.map fun v => v.category).sum ≤ 8) (hE : Ev M' d' 0 (entL [.ref id, a1, a2, a3] M'.2.2.2.1) [] h (PE e h)) (kk : Ev M d pc' ls (iv e :: rest) h Post) : Ev M d pc ls (a3 :: a2 :: a1 :: .ref id :: rest) h Post := by
  refine Ev.callV (as := [a1, a2, a3]) rfl hd hn hw rfl hne hdd hy hcl hly hst hE ?_
  rintro v h' ⟨x, rfl, rfl, rfl⟩
  exact kk
theorem Ev.cv3P {M' : Mi} {y : MethodName} {idx id ci d' : Nat} {ks : List Nat} {T : u_T} {N : Nat} {a1 a2 a3 : Value} {rest : List Value} {cc : Prop} {h1 h0 : Hp} (hd : decode M.2.2.1 pc = .ok (.invokevirtual idx, 3)) (hn : pc + 3 = pc') (hw : CWv M.2.1 idx y M' 3) (hne : (entA [.ref id, a1, a2, a3]).length ≤ M'.2.2.2.1) (hdd : d' + 1 ≤ d) (hy : M.1.2[id]? = some (.inl (ci, ks))) (hcl : vwCl[ci]? = some (y.cls, T, N)) (hly : M'.1 = M.1) (hst : (rest.map fun v => v.category).sum ≤ 8) (hE : Ev M' d' 0 (entL [.ref id, a1, a2, a3] M'.2.2.2.1) [] h (PB cc h1 h0)) (kt : cc → Ev M d pc' ls (iv 1 :: rest) h1 Post) (kf : ¬ cc → Ev M d pc' ls (iv 0 :: rest) h0 Post) : Ev M d pc ls (a3 :: a2 :: a1 :: .ref id :: rest) h Post := by
  refine Ev.callV (as := [a1, a2, a3]) rfl hd hn hw rfl hne hdd hy hcl hly hst hE ?_
  rintro v h' ⟨x, rfl, ⟨hc, rfl, rfl⟩ | ⟨hc, rfl, rfl⟩⟩
  · exact kt hc
  · exact kf hc
theorem Ev.cv3F {M' : Mi} {y : MethodName} {idx id ci d' : Nat} {ks : List Nat} {T : u_T} {N : Nat} {a1 a2 a3 : Value} {rest : List Value} {e : Int} (hd : decode M.2.2.1 pc = .ok (.invokevirtual idx, 3)) (hn : pc + 3 = pc') (hw : CWv M.2.1 idx y M' 3) (hne : (entA [.ref id, a1, a2, a3]).length ≤ M'.2.2.2.1) (hdd : d' + 1 ≤ d) (hy : M.1.2[id]? = some (.inl (ci, ks))) (hcl : vwCl[ci]? = some (y.cls, T, N)) (hly : M'.1 = M.1) (hst : (rest.map fun v => v.category).sum ≤ 8) (hE : Ev M' d' 0 (entL [.ref id, a1, a2, a3] M'.2.2.2.1) [] h (PEJ e h)) (kk : Ev M d pc' ls (jv e :: rest) h Post) : Ev M d pc ls (a3 :: a2 :: a1 :: .ref id :: rest) h Post := by
  refine Ev.callV (as := [a1, a2, a3]) rfl hd hn hw rfl hne hdd hy hcl hly hst hE ?_
  rintro v h' ⟨x, rfl, rfl, rfl⟩
  exact kk
theorem Ev.cv4I {M' : Mi} {y : MethodName} {idx id ci d' : Nat} {ks : List Nat} {T : u_T} {N : Nat} {a1 a2 a3 a4 : Value} {rest : List Value} {P : Int → Hp → Prop} (hd : decode M.2.2.1 pc = .ok (.invokevirtual idx, 3)) (hn : pc + 3 = pc') (hw : CWv M.2.1 idx y M' 4) (hne : (entA [.ref id, a1, a2, a3, a4]).length ≤ M'.2.2.2.1) (hdd : d' + 1 ≤ d) (hy : M.1.2[id]? = some (.inl (ci, ks))) (hcl : vwCl[ci]? = some (y.cls, T, N)) (hly : M'.1 = M.1) (hst : (rest.map fun v => v.category).sum ≤ 8) (hE : Ev M' d' 0 (entL [.ref id, a1, a2, a3, a4] M'.2.2.2.1) [] h (PI P)) (kk : ∀ x h', P x h' → Ev M d pc' ls (iv x :: rest) h' Post) : Ev M d pc ls (a4 :: a3 :: a2 :: a1 :: .ref id :: rest) h Post := by
  refine Ev.callV (as := [a1, a2, a3, a4]) rfl hd hn hw rfl hne hdd hy hcl hly hst hE ?_
  rintro v h' ⟨x, rfl, hp⟩
  exact kk x h' hp
theorem Ev.cv4J {M' : Mi} {y : MethodName} {idx id ci d' : Nat} {ks : List Nat} {T : u_T} {N : Nat} {a1 a2 a3 a4 : Value} {rest : List Value} {P : Int → Hp → Prop} (hd : decode M.2.2.1 pc = .ok (.invokevirtual idx, 3)) (hn : pc + 3 = pc') (hw : CWv M.2.1 idx y M' 4) (hne : (entA [.ref id, a1, a2, a3, a4]).length ≤ M'.2.2.2.1) (hdd : d' + 1 ≤ d) (hy : M.1.2[id]? = some (.inl (ci, ks))) (hcl : vwCl[ci]? = some (y.cls, T, N)) (hly : M'.1 = M.1) (hst : (rest.map fun v => v.category).sum ≤ 8) (hE : Ev M' d' 0 (entL [.ref id, a1, a2, a3, a4] M'.2.2.2.1) [] h (PJ P)) (kk : ∀ x h', P x h' → Ev M d pc' ls (jv x :: rest) h' Post) : Ev M d pc ls (a4 :: a3 :: a2 :: a1 :: .ref id :: rest) h Post := by
  refine Ev.callV (as := [a1, a2, a3, a4]) rfl hd hn hw rfl hne hdd hy hcl hly hst hE ?_
  rintro v h' ⟨x, rfl, hp⟩
  exact kk x h' hp
theorem Ev.cv4V {M' : Mi} {y : MethodName} {idx id ci d' : Nat} {ks : List Nat} {T : u_T} {N : Nat} {a1 a2 a3 a4 : Value} {rest : List Value} {P : Hp → Prop} (hd : decode M.2.2.1 pc = .ok (.invokevirtual idx, 3)) (hn : pc + 3 = pc') (hw : CWv M.2.1 idx y M' 4) (hne : (entA [.ref id, a1, a2, a3, a4]).length ≤ M'.2.2.2.1) (hdd : d' + 1 ≤ d) (hy : M.1.2[id]? = some (.inl (ci, ks))) (hcl : vwCl[ci]? = some (y.cls, T, N)) (hly : M'.1 = M.1) (hst : (rest.map fun v => v.category).sum ≤ 8) (hE : Ev M' d' 0 (entL [.ref id, a1, a2, a3, a4] M'.2.2.2.1) [] h (PV P)) (kk : ∀ h', P h' → Ev M d pc' ls rest h' Post) : Ev M d pc ls (a4 :: a3 :: a2 :: a1 :: .ref id :: rest) h Post := by
  refine Ev.callV (as := [a1, a2, a3, a4]) rfl hd hn hw rfl hne hdd hy hcl hly hst hE ?_
  rintro v h' ⟨rfl, hp⟩
  exact kk h' hp
theorem Ev.cv4E {M' : Mi} {y : MethodName} {idx id ci d' : Nat} {ks : List Nat} {T : u_T} {N : Nat} {a1 a2 a3 a4 : Value} {rest : List Value} {e : Int} (hd : decode M.2.2.1 pc = .ok (.invokevirtual idx, 3)) (hn : pc + 3 = pc') (hw : CWv M.2.1 idx y M' 4) (hne : (entA [.ref id, a1, a2, a3, a4]).length ≤ M'.2.2.2.1) (hdd : d' + 1 ≤ d) (hy : M.1.2[id]? = some (.inl (ci, ks))) (hcl : vwCl[ci]? = some (y.cls, T, N)) (hly : M'.1 = M.1) (hst : (rest.map fun v => v.category).sum ≤ 8) (hE : Ev M' d' 0 (entL [.ref id, a1, a2, a3, a4] M'.2.2.2.1) [] h (PE e h)) (kk : Ev M d pc' ls (iv e :: rest) h Post) : Ev M d pc ls (a4 :: a3 :: a2 :: a1 :: .ref id :: rest) h Post := by
  refine Ev.callV (as := [a1, a2, a3, a4]) rfl hd hn hw rfl hne hdd hy hcl hly hst hE ?_
  rintro v h' ⟨x, rfl, rfl, rfl⟩
  exact kk
theorem Ev.cv4P {M' : Mi} {y : MethodName} {idx id ci d' : Nat} {ks : List Nat} {T : u_T} {N : Nat} {a1 a2 a3 a4 : Value} {rest : List Value} {cc : Prop} {h1 h0 : Hp} (hd : decode M.2.2.1 pc = .ok (.invokevirtual idx, 3)) (hn : pc + 3 = pc') (hw : CWv M.2.1 idx y M' 4) (hne : (entA [.ref id, a1, a2, a3, a4]).length ≤ M'.2.2.2.1) (hdd : d' + 1 ≤ d) (hy : M.1.2[id]? = some (.inl (ci, ks))) (hcl : vwCl[ci]? = some (y.cls, T, N)) (hly : M'.1 = M.1) (hst : (rest.map fun v => v.category).sum ≤ 8) (hE : Ev M' d' 0 (entL [.ref id, a1, a2, a3, a4] M'.2.2.2.1) [] h (PB cc h1 h0)) (kt : cc → Ev M d pc' ls (iv 1 :: rest) h1 Post) (kf : ¬ cc → Ev M d pc' ls (iv 0 :: rest) h0 Post) : Ev M d pc ls (a4 :: a3 :: a2 :: a1 :: .ref id :: rest) h Post := by
  refine Ev.callV (as := [a1, a2, a3, a4]) rfl hd hn hw rfl hne hdd hy hcl hly hst hE ?_
  rintro v h' ⟨x, rfl, ⟨hc, rfl, rfl⟩ | ⟨hc, rfl, rfl⟩⟩
  · exact kt hc
  · exact kf hc
theorem Ev.cv4F {M' : Mi} {y : MethodName} {idx id ci d' : Nat} {ks : List Nat} {T : u_T} {N : Nat} {a1 a2 a3 a4 : Value} {rest : List Value} {e : Int} (hd : decode M.2.2.1 pc = .ok (.invokevirtual idx, 3)) (hn : pc + 3 = pc') (hw : CWv M.2.1 idx y M' 4) (hne : (entA [.ref id, a1, a2, a3, a4]).length ≤ M'.2.2.2.1) (hdd : d' + 1 ≤ d) (hy : M.1.2[id]? = some (.inl (ci, ks))) (hcl : vwCl[ci]? = some (y.cls, T, N)) (hly : M'.1 = M.1) (hst : (rest.map fun v => v.category).sum ≤ 8) (hE : Ev M' d' 0 (entL [.ref id, a1, a2, a3, a4] M'.2.2.2.1) [] h (PEJ e h)) (kk : Ev M d pc' ls (jv e :: rest) h Post) : Ev M d pc ls (a4 :: a3 :: a2 :: a1 :: .ref id :: rest) h Post := by
  refine Ev.callV (as := [a1, a2, a3, a4]) rfl hd hn hw rfl hne hdd hy hcl hly hst hE ?_
  rintro v h' ⟨x, rfl, rfl, rfl⟩
  exact kk
theorem Ev.cv5I {M' : Mi} {y : MethodName} {idx id ci d' : Nat} {ks : List Nat} {T : u_T} {N : Nat} {a1 a2 a3 a4 a5 : Value} {rest : List Value} {P : Int → Hp → Prop} (hd : decode M.2.2.1 pc = .ok (.invokevirtual idx, 3)) (hn : pc + 3 = pc') (hw : CWv M.2.1 idx y M' 5) (hne : (entA [.ref id, a1, a2, a3, a4, a5]).length ≤ M'.2.2.2.1) (hdd : d' + 1 ≤ d) (hy : M.1.2[id]? = some (.inl (ci, ks))) (hcl : vwCl[ci]? = some (y.cls, T, N)) (hly : M'.1 = M.1) (hst : (rest.map fun v => v.category).sum ≤ 8) (hE : Ev M' d' 0 (entL [.ref id, a1, a2, a3, a4, a5] M'.2.2.2.1) [] h (PI P)) (kk : ∀ x h', P x h' → Ev M d pc' ls (iv x :: rest) h' Post) : Ev M d pc ls (a5 :: a4 :: a3 :: a2 :: a1 :: .ref id :: rest) h Post := by
  refine Ev.callV (as := [a1, a2, a3, a4, a5]) rfl hd hn hw rfl hne hdd hy hcl hly hst hE ?_
  rintro v h' ⟨x, rfl, hp⟩
  exact kk x h' hp
theorem Ev.cv5J {M' : Mi} {y : MethodName} {idx id ci d' : Nat} {ks : List Nat} {T : u_T} {N : Nat} {a1 a2 a3 a4 a5 : Value} {rest : List Value} {P : Int → Hp → Prop} (hd : decode M.2.2.1 pc = .ok (.invokevirtual idx, 3)) (hn : pc + 3 = pc') (hw : CWv M.2.1 idx y M' 5) (hne : (entA [.ref id, a1, a2, a3, a4, a5]).length ≤ M'.2.2.2.1) (hdd : d' + 1 ≤ d) (hy : M.1.2[id]? = some (.inl (ci, ks))) (hcl : vwCl[ci]? = some (y.cls, T, N)) (hly : M'.1 = M.1) (hst : (rest.map fun v => v.category).sum ≤ 8) (hE : Ev M' d' 0 (entL [.ref id, a1, a2, a3, a4, a5] M'.2.2.2.1) [] h (PJ P)) (kk : ∀ x h', P x h' → Ev M d pc' ls (jv x :: rest) h' Post) : Ev M d pc ls (a5 :: a4 :: a3 :: a2 :: a1 :: .ref id :: rest) h Post := by
  refine Ev.callV (as := [a1, a2, a3, a4, a5]) rfl hd hn hw rfl hne hdd hy hcl hly hst hE ?_
  rintro v h' ⟨x, rfl, hp⟩
  exact kk x h' hp
theorem Ev.cv5V {M' : Mi} {y : MethodName} {idx id ci d' : Nat} {ks : List Nat} {T : u_T} {N : Nat} {a1 a2 a3 a4 a5 : Value} {rest : List Value} {P : Hp → Prop} (hd : decode M.2.2.1 pc = .ok (.invokevirtual idx, 3)) (hn : pc + 3 = pc') (hw : CWv M.2.1 idx y M' 5) (hne : (entA [.ref id, a1, a2, a3, a4, a5]).length ≤ M'.2.2.2.1) (hdd : d' + 1 ≤ d) (hy : M.1.2[id]? = some (.inl (ci, ks))) (hcl : vwCl[ci]? = some (y.cls, T, N)) (hly : M'.1 = M.1) (hst : (rest.map fun v => v.category).sum ≤ 8) (hE : Ev M' d' 0 (entL [.ref id, a1, a2, a3, a4, a5] M'.2.2.2.1) [] h (PV P)) (kk : ∀ h', P h' → Ev M d pc' ls rest h' Post) : Ev M d pc ls (a5 :: a4 :: a3 :: a2 :: a1 :: .ref id :: rest) h Post := by
  refine Ev.callV (as := [a1, a2, a3, a4, a5]) rfl hd hn hw rfl hne hdd hy hcl hly hst hE ?_
  rintro v h' ⟨rfl, hp⟩
  exact kk h' hp
theorem Ev.cv5E {M' : Mi} {y : MethodName} {idx id ci d' : Nat} {ks : List Nat} {T : u_T} {N : Nat} {a1 a2 a3 a4 a5 : Value} {rest : List Value} {e : Int} (hd : decode M.2.2.1 pc = .ok (.invokevirtual idx, 3)) (hn : pc + 3 = pc') (hw : CWv M.2.1 idx y M' 5) (hne : (entA [.ref id, a1, a2, a3, a4, a5]).length ≤ M'.2.2.2.1) (hdd : d' + 1 ≤ d) (hy : M.1.2[id]? = some (.inl (ci, ks))) (hcl : vwCl[ci]? = some (y.cls, T, N)) (hly : M'.1 = M.1) (hst : (rest.map fun v => v.category).sum ≤ 8) (hE : Ev M' d' 0 (entL [.ref id, a1, a2, a3, a4, a5] M'.2.2.2.1) [] h (PE e h)) (kk : Ev M d pc' ls (iv e :: rest) h Post) : Ev M d pc ls (a5 :: a4 :: a3 :: a2 :: a1 :: .ref id :: rest) h Post := by
  refine Ev.callV (as := [a1, a2, a3, a4, a5]) rfl hd hn hw rfl hne hdd hy hcl hly hst hE ?_
  rintro v h' ⟨x, rfl, rfl, rfl⟩
  exact kk
theorem Ev.cv5P {M' : Mi} {y : MethodName} {idx id ci d' : Nat} {ks : List Nat} {T : u_T} {N : Nat} {a1 a2 a3 a4 a5 : Value} {rest : List Value} {cc : Prop} {h1 h0 : Hp} (hd : decode M.2.2.1 pc = .ok (.invokevirtual idx, 3)) (hn : pc + 3 = pc') (hw : CWv M.2.1 idx y M' 5) (hne : (entA [.ref id, a1, a2, a3, a4, a5]).length ≤ M'.2.2.2.1) (hdd : d' + 1 ≤ d) (hy : M.1.2[id]? = some (.inl (ci, ks))) (hcl : vwCl[ci]? = some (y.cls, T, N)) (hly : M'.1 = M.1) (hst : (rest.map fun v => v.category).sum ≤ 8) (hE : Ev M' d' 0 (entL [.ref id, a1, a2, a3, a4, a5] M'.2.2.2.1) [] h (PB cc h1 h0)) (kt : cc → Ev M d pc' ls (iv 1 :: rest) h1 Post) (kf : ¬ cc → Ev M d pc' ls (iv 0 :: rest) h0 Post) : Ev M d pc ls (a5 :: a4 :: a3 :: a2 :: a1 :: .ref id :: rest) h Post := by
  refine Ev.callV (as := [a1, a2, a3, a4, a5]) rfl hd hn hw rfl hne hdd hy hcl hly hst hE ?_
  rintro v h' ⟨x, rfl, ⟨hc, rfl, rfl⟩ | ⟨hc, rfl, rfl⟩⟩
  · exact kt hc
  · exact kf hc
theorem Ev.cv5F {M' : Mi} {y : MethodName} {idx id ci d' : Nat} {ks : List Nat} {T : u_T} {N : Nat} {a1 a2 a3 a4 a5 : Value} {rest : List Value} {e : Int} (hd : decode M.2.2.1 pc = .ok (.invokevirtual idx, 3)) (hn : pc + 3 = pc') (hw : CWv M.2.1 idx y M' 5) (hne : (entA [.ref id, a1, a2, a3, a4, a5]).length ≤ M'.2.2.2.1) (hdd : d' + 1 ≤ d) (hy : M.1.2[id]? = some (.inl (ci, ks))) (hcl : vwCl[ci]? = some (y.cls, T, N)) (hly : M'.1 = M.1) (hst : (rest.map fun v => v.category).sum ≤ 8) (hE : Ev M' d' 0 (entL [.ref id, a1, a2, a3, a4, a5] M'.2.2.2.1) [] h (PEJ e h)) (kk : Ev M d pc' ls (jv e :: rest) h Post) : Ev M d pc ls (a5 :: a4 :: a3 :: a2 :: a1 :: .ref id :: rest) h Post := by
  refine Ev.callV (as := [a1, a2, a3, a4, a5]) rfl hd hn hw rfl hne hdd hy hcl hly hst hE ?_
  rintro v h' ⟨x, rfl, rfl, rfl⟩
  exact kk
theorem Ev.cs1I {M' : Mi} {y : MethodName} {idx d' : Nat} {a1 : Value} {rest : List Value} {P : Int → Hp → Prop} (hd : decode M.2.2.1 pc = .ok (.invokestatic idx, 3)) (hn : pc + 3 = pc') (hw : CWs M.2.1 idx y M' 1) (hne : (entA [a1]).length ≤ M'.2.2.2.1) (hdd : d' + 1 ≤ d) (hly : M'.1 = M.1) (hst : (rest.map fun v => v.category).sum ≤ 8) (hE : Ev M' d' 0 (entL [a1] M'.2.2.2.1) [] h (PI P)) (kk : ∀ x h', P x h' → Ev M d pc' ls (iv x :: rest) h' Post) : Ev M d pc ls (a1 :: rest) h Post := by
  refine Ev.callS (as := [a1]) rfl hd hn hw rfl hne hdd hly hst hE ?_
  rintro v h' ⟨x, rfl, hp⟩
  exact kk x h' hp
theorem Ev.cs1E {M' : Mi} {y : MethodName} {idx d' : Nat} {a1 : Value} {rest : List Value} {e : Int} (hd : decode M.2.2.1 pc = .ok (.invokestatic idx, 3)) (hn : pc + 3 = pc') (hw : CWs M.2.1 idx y M' 1) (hne : (entA [a1]).length ≤ M'.2.2.2.1) (hdd : d' + 1 ≤ d) (hly : M'.1 = M.1) (hst : (rest.map fun v => v.category).sum ≤ 8) (hE : Ev M' d' 0 (entL [a1] M'.2.2.2.1) [] h (PE e h)) (kk : Ev M d pc' ls (iv e :: rest) h Post) : Ev M d pc ls (a1 :: rest) h Post := by
  refine Ev.callS (as := [a1]) rfl hd hn hw rfl hne hdd hly hst hE ?_
  rintro v h' ⟨x, rfl, rfl, rfl⟩
  exact kk
theorem Ev.cs1F {M' : Mi} {y : MethodName} {idx d' : Nat} {a1 : Value} {rest : List Value} {e : Int} (hd : decode M.2.2.1 pc = .ok (.invokestatic idx, 3)) (hn : pc + 3 = pc') (hw : CWs M.2.1 idx y M' 1) (hne : (entA [a1]).length ≤ M'.2.2.2.1) (hdd : d' + 1 ≤ d) (hly : M'.1 = M.1) (hst : (rest.map fun v => v.category).sum ≤ 8) (hE : Ev M' d' 0 (entL [a1] M'.2.2.2.1) [] h (PEJ e h)) (kk : Ev M d pc' ls (jv e :: rest) h Post) : Ev M d pc ls (a1 :: rest) h Post := by
  refine Ev.callS (as := [a1]) rfl hd hn hw rfl hne hdd hly hst hE ?_
  rintro v h' ⟨x, rfl, rfl, rfl⟩
  exact kk
theorem Ev.cs2I {M' : Mi} {y : MethodName} {idx d' : Nat} {a1 a2 : Value} {rest : List Value} {P : Int → Hp → Prop} (hd : decode M.2.2.1 pc = .ok (.invokestatic idx, 3)) (hn : pc + 3 = pc') (hw : CWs M.2.1 idx y M' 2) (hne : (entA [a1, a2]).length ≤ M'.2.2.2.1) (hdd : d' + 1 ≤ d) (hly : M'.1 = M.1) (hst : (rest.map fun v => v.category).sum ≤ 8) (hE : Ev M' d' 0 (entL [a1, a2] M'.2.2.2.1) [] h (PI P)) (kk : ∀ x h', P x h' → Ev M d pc' ls (iv x :: rest) h' Post) : Ev M d pc ls (a2 :: a1 :: rest) h Post := by
  refine Ev.callS (as := [a1, a2]) rfl hd hn hw rfl hne hdd hly hst hE ?_
  rintro v h' ⟨x, rfl, hp⟩
  exact kk x h' hp
theorem Ev.cs2E {M' : Mi} {y : MethodName} {idx d' : Nat} {a1 a2 : Value} {rest : List Value} {e : Int} (hd : decode M.2.2.1 pc = .ok (.invokestatic idx, 3)) (hn : pc + 3 = pc') (hw : CWs M.2.1 idx y M' 2) (hne : (entA [a1, a2]).length ≤ M'.2.2.2.1) (hdd : d' + 1 ≤ d) (hly : M'.1 = M.1) (hst : (rest.map fun v => v.category).sum ≤ 8) (hE : Ev M' d' 0 (entL [a1, a2] M'.2.2.2.1) [] h (PE e h)) (kk : Ev M d pc' ls (iv e :: rest) h Post) : Ev M d pc ls (a2 :: a1 :: rest) h Post := by
  refine Ev.callS (as := [a1, a2]) rfl hd hn hw rfl hne hdd hly hst hE ?_
  rintro v h' ⟨x, rfl, rfl, rfl⟩
  exact kk
theorem Ev.cs2F {M' : Mi} {y : MethodName} {idx d' : Nat} {a1 a2 : Value} {rest : List Value} {e : Int} (hd : decode M.2.2.1 pc = .ok (.invokestatic idx, 3)) (hn : pc + 3 = pc') (hw : CWs M.2.1 idx y M' 2) (hne : (entA [a1, a2]).length ≤ M'.2.2.2.1) (hdd : d' + 1 ≤ d) (hly : M'.1 = M.1) (hst : (rest.map fun v => v.category).sum ≤ 8) (hE : Ev M' d' 0 (entL [a1, a2] M'.2.2.2.1) [] h (PEJ e h)) (kk : Ev M d pc' ls (jv e :: rest) h Post) : Ev M d pc ls (a2 :: a1 :: rest) h Post := by
  refine Ev.callS (as := [a1, a2]) rfl hd hn hw rfl hne hdd hly hst hE ?_
  rintro v h' ⟨x, rfl, rfl, rfl⟩
  exact kk
theorem Ev.cs3I {M' : Mi} {y : MethodName} {idx d' : Nat} {a1 a2 a3 : Value} {rest : List Value} {P : Int → Hp → Prop} (hd : decode M.2.2.1 pc = .ok (.invokestatic idx, 3)) (hn : pc + 3 = pc') (hw : CWs M.2.1 idx y M' 3) (hne : (entA [a1, a2, a3]).length ≤ M'.2.2.2.1) (hdd : d' + 1 ≤ d) (hly : M'.1 = M.1) (hst : (rest.map fun v => v.category).sum ≤ 8) (hE : Ev M' d' 0 (entL [a1, a2, a3] M'.2.2.2.1) [] h (PI P)) (kk : ∀ x h', P x h' → Ev M d pc' ls (iv x :: rest) h' Post) : Ev M d pc ls (a3 :: a2 :: a1 :: rest) h Post := by
  refine Ev.callS (as := [a1, a2, a3]) rfl hd hn hw rfl hne hdd hly hst hE ?_
  rintro v h' ⟨x, rfl, hp⟩
  exact kk x h' hp
theorem Ev.cs3E {M' : Mi} {y : MethodName} {idx d' : Nat} {a1 a2 a3 : Value} {rest : List Value} {e : Int} (hd : decode M.2.2.1 pc = .ok (.invokestatic idx, 3)) (hn : pc + 3 = pc') (hw : CWs M.2.1 idx y M' 3) (hne : (entA [a1, a2, a3]).length ≤ M'.2.2.2.1) (hdd : d' + 1 ≤ d) (hly : M'.1 = M.1) (hst : (rest.map fun v => v.category).sum ≤ 8) (hE : Ev M' d' 0 (entL [a1, a2, a3] M'.2.2.2.1) [] h (PE e h)) (kk : Ev M d pc' ls (iv e :: rest) h Post) : Ev M d pc ls (a3 :: a2 :: a1 :: rest) h Post := by
  refine Ev.callS (as := [a1, a2, a3]) rfl hd hn hw rfl hne hdd hly hst hE ?_
  rintro v h' ⟨x, rfl, rfl, rfl⟩
  exact kk
theorem Ev.cs3F {M' : Mi} {y : MethodName} {idx d' : Nat} {a1 a2 a3 : Value} {rest : List Value} {e : Int} (hd : decode M.2.2.1 pc = .ok (.invokestatic idx, 3)) (hn : pc + 3 = pc') (hw : CWs M.2.1 idx y M' 3) (hne : (entA [a1, a2, a3]).length ≤ M'.2.2.2.1) (hdd : d' + 1 ≤ d) (hly : M'.1 = M.1) (hst : (rest.map fun v => v.category).sum ≤ 8) (hE : Ev M' d' 0 (entL [a1, a2, a3] M'.2.2.2.1) [] h (PEJ e h)) (kk : Ev M d pc' ls (jv e :: rest) h Post) : Ev M d pc ls (a3 :: a2 :: a1 :: rest) h Post := by
  refine Ev.callS (as := [a1, a2, a3]) rfl hd hn hw rfl hne hdd hly hst hE ?_
  rintro v h' ⟨x, rfl, rfl, rfl⟩
  exact kk
theorem Ev.cs4I {M' : Mi} {y : MethodName} {idx d' : Nat} {a1 a2 a3 a4 : Value} {rest : List Value} {P : Int → Hp → Prop} (hd : decode M.2.2.1 pc = .ok (.invokestatic idx, 3)) (hn : pc + 3 = pc') (hw : CWs M.2.1 idx y M' 4) (hne : (entA [a1, a2, a3, a4]).length ≤ M'.2.2.2.1) (hdd : d' + 1 ≤ d) (hly : M'.1 = M.1) (hst : (rest.map fun v => v.category).sum ≤ 8) (hE : Ev M' d' 0 (entL [a1, a2, a3, a4] M'.2.2.2.1) [] h (PI P)) (kk : ∀ x h', P x h' → Ev M d pc' ls (iv x :: rest) h' Post) : Ev M d pc ls (a4 :: a3 :: a2 :: a1 :: rest) h Post := by
  refine Ev.callS (as := [a1, a2, a3, a4]) rfl hd hn hw rfl hne hdd hly hst hE ?_
  rintro v h' ⟨x, rfl, hp⟩
  exact kk x h' hp
theorem Ev.cs4E {M' : Mi} {y : MethodName} {idx d' : Nat} {a1 a2 a3 a4 : Value} {rest : List Value} {e : Int} (hd : decode M.2.2.1 pc = .ok (.invokestatic idx, 3)) (hn : pc + 3 = pc') (hw : CWs M.2.1 idx y M' 4) (hne : (entA [a1, a2, a3, a4]).length ≤ M'.2.2.2.1) (hdd : d' + 1 ≤ d) (hly : M'.1 = M.1) (hst : (rest.map fun v => v.category).sum ≤ 8) (hE : Ev M' d' 0 (entL [a1, a2, a3, a4] M'.2.2.2.1) [] h (PE e h)) (kk : Ev M d pc' ls (iv e :: rest) h Post) : Ev M d pc ls (a4 :: a3 :: a2 :: a1 :: rest) h Post := by
  refine Ev.callS (as := [a1, a2, a3, a4]) rfl hd hn hw rfl hne hdd hly hst hE ?_
  rintro v h' ⟨x, rfl, rfl, rfl⟩
  exact kk
theorem Ev.cs4F {M' : Mi} {y : MethodName} {idx d' : Nat} {a1 a2 a3 a4 : Value} {rest : List Value} {e : Int} (hd : decode M.2.2.1 pc = .ok (.invokestatic idx, 3)) (hn : pc + 3 = pc') (hw : CWs M.2.1 idx y M' 4) (hne : (entA [a1, a2, a3, a4]).length ≤ M'.2.2.2.1) (hdd : d' + 1 ≤ d) (hly : M'.1 = M.1) (hst : (rest.map fun v => v.category).sum ≤ 8) (hE : Ev M' d' 0 (entL [a1, a2, a3, a4] M'.2.2.2.1) [] h (PEJ e h)) (kk : Ev M d pc' ls (jv e :: rest) h Post) : Ev M d pc ls (a4 :: a3 :: a2 :: a1 :: rest) h Post := by
  refine Ev.callS (as := [a1, a2, a3, a4]) rfl hd hn hw rfl hne hdd hly hst hE ?_
  rintro v h' ⟨x, rfl, rfl, rfl⟩
  exact kk
theorem nestW : Cond.static yX7_isWithin ∈ BG ∧ Cond.initialized RX7 ∈ BG ∧ Cond.code yX7_isWithin mX7_isWithin.2.2.1 mX7_isWithin.2.2.2.1 mX7_isWithin.2.2.2.2 ∈ BG ∧ RX7 = mX7_isWithin.2.1 ∧ mX7_isWithin.2.2.2.1 ≤ 30 := ⟨ms_X7_isWithin.1, ms_X7_isWithin.2.1, ms_X7_isWithin.2.2, rfl, by decide⟩
theorem Ev.cn3E {d' : Nat} {a1 a2 a3 : Value} {rest : List Value} {e : Int} (hd : decode M.2.2.1 pc = .ok (.invokestatic 65, 3)) (hn : pc + 3 = pc') (ho : M.2.1 = RX2) (hne : (entA [a1, a2, a3]).length ≤ 3) (hdd : d' + 1 ≤ d) (hly : cLy = M.1) (hst : (rest.map fun v => v.category).sum ≤ 8) (hE : Ev mX7_isWithin d' 0 (entL [a1, a2, a3] 3) [] h (PE e h)) (kk : Ev M d pc' ls (iv e :: rest) h Post) : Ev M d pc ls (a3 :: a2 :: a1 :: rest) h Post := by
  refine Ev.callN (M' := mX7_isWithin) (as := [a1, a2, a3]) rfl hd hn ho nestW rfl hne hdd hly hst hE ?_
  rintro v h' ⟨x, rfl, rfl, rfl⟩
  exact kk
end EVX
-- bits
theorem b_and {x y : Int} (hx : 0 ≤ x) (hy : 0 ≤ y) : Int32.ofInt x &&& Int32.ofInt y = Int32.ofInt ((x.toNat &&& y.toNat : Nat) : Int) := by
  obtain ⟨a, rfl⟩ := Int.eq_ofNat_of_zero_le hx
  obtain ⟨b, rfl⟩ := Int.eq_ofNat_of_zero_le hy
  simp only [Int.toNat_natCast]
  rw [Int32.ofInt_eq_ofNat, Int32.ofInt_eq_ofNat, Int32.ofInt_eq_ofNat]
  apply Int32.toBitVec.inj
  simp only [Int32.toBitVec_and, Int32.toBitVec_ofNat']
  exact BitVec.ofNat_and.symm
theorem b_or {x y : Int} (hx : 0 ≤ x) (hy : 0 ≤ y) : Int32.ofInt x ||| Int32.ofInt y = Int32.ofInt ((x.toNat ||| y.toNat : Nat) : Int) := by
  obtain ⟨a, rfl⟩ := Int.eq_ofNat_of_zero_le hx
  obtain ⟨b, rfl⟩ := Int.eq_ofNat_of_zero_le hy
  simp only [Int.toNat_natCast]
  rw [Int32.ofInt_eq_ofNat, Int32.ofInt_eq_ofNat, Int32.ofInt_eq_ofNat]
  apply Int32.toBitVec.inj
  simp only [Int32.toBitVec_or, Int32.toBitVec_ofNat']
  exact BitVec.ofNat_or.symm
theorem b_xor {x y : Int} (hx : 0 ≤ x) (hy : 0 ≤ y) : Int32.ofInt x ^^^ Int32.ofInt y = Int32.ofInt ((x.toNat ^^^ y.toNat : Nat) : Int) := by
  obtain ⟨a, rfl⟩ := Int.eq_ofNat_of_zero_le hx
  obtain ⟨b, rfl⟩ := Int.eq_ofNat_of_zero_le hy
  simp only [Int.toNat_natCast]
  rw [Int32.ofInt_eq_ofNat, Int32.ofInt_eq_ofNat, Int32.ofInt_eq_ofNat]
  apply Int32.toBitVec.inj
  simp only [Int32.toBitVec_xor, Int32.toBitVec_ofNat']
  exact BitVec.ofNat_xor.symm
theorem sl31 : ∀ k, k < 32 → ((nI k &&& 31).toBitVec.smod 32).toNat = k := by decide
theorem b_shl {x y : Int} (hx : 0 ≤ x) (hy : 0 ≤ y) (h2 : y < 32) (h3 : x * 2 ^ y.toNat < 4294967296) : Int32.ofInt x <<< (Int32.ofInt y &&& 31) = Int32.ofInt (x * 2 ^ y.toNat) := by
  obtain ⟨a, rfl⟩ := Int.eq_ofNat_of_zero_le hx
  obtain ⟨b, rfl⟩ := Int.eq_ofNat_of_zero_le hy
  simp only [Int.toNat_natCast] at h3 ⊢
  rw [show ((a : Int) * 2 ^ b) = ((a * 2 ^ b : Nat) : Int) by simp] at h3 ⊢
  rw [Int32.ofInt_eq_ofNat, Int32.ofInt_eq_ofNat, Int32.ofInt_eq_ofNat]
  exact pk_shlN _ b (sl31 b (by omega)) (by omega)
theorem b_shr {x y : Int} (hx : 0 ≤ x) (hx2 : x ≤ 2147483647) (hy : 0 ≤ y) (h2 : y < 32) : Int32.ofInt x >>> (Int32.ofInt y &&& 31) = Int32.ofInt ((x.toNat >>> y.toNat : Nat) : Int) := by
  obtain ⟨a, rfl⟩ := Int.eq_ofNat_of_zero_le hx
  obtain ⟨b, rfl⟩ := Int.eq_ofNat_of_zero_le hy
  simp only [Int.toNat_natCast]
  rw [Int32.ofInt_eq_ofNat, Int32.ofInt_eq_ofNat, Int32.ofInt_eq_ofNat, Nat.shiftRight_eq_div_pow]
  exact pk_shrN (by omega) _ b (sl31 b (by omega))
/-- x without the bits of y -/
def bwo (x y : Int) : Int := ((x.toNat ^^^ (x.toNat &&& y.toNat) : Nat) : Int)
theorem b_not {y : Int} (hy : 0 ≤ y) : Int32.ofInt y ^^^ Int32.ofInt (-1) = Int32.ofInt (-1 - y) := by
  have e : Int32.ofInt y ^^^ Int32.ofInt (-1) = ~~~ (Int32.ofInt y) := by
    apply Int32.toBitVec.inj
    simp only [Int32.toBitVec_xor, Int32.toBitVec_not, Int32.toBitVec_ofInt]
    rw [show BitVec.ofInt 32 (-1) = BitVec.allOnes 32 by decide]
    exact BitVec.xor_allOnes
  rw [e]
  apply Int32.toBitVec.inj
  simp only [Int32.toBitVec_not, Int32.toBitVec_ofInt]
  rw [BitVec.not_eq_neg_add, ← BitVec.ofInt_neg]
  have : (-1 - y : Int) = -y - 1 := by omega
  rw [this, Int.sub_eq_add_neg, BitVec.ofInt_add, BitVec.sub_eq_add_neg]
  rfl
theorem b_andn {x y : Int} (hx : 0 ≤ x) (hy : 0 ≤ y) : Int32.ofInt x &&& Int32.ofInt (-1 - y) = Int32.ofInt (bwo x y) := by
  rw [← b_not hy]
  obtain ⟨a, rfl⟩ := Int.eq_ofNat_of_zero_le hx
  obtain ⟨b, rfl⟩ := Int.eq_ofNat_of_zero_le hy
  unfold bwo
  simp only [Int.toNat_natCast]
  rw [Int32.ofInt_eq_ofNat, Int32.ofInt_eq_ofNat, Int32.ofInt_eq_ofNat]
  apply Int32.toBitVec.inj
  simp only [Int32.toBitVec_and, Int32.toBitVec_xor, Int32.toBitVec_ofNat', Int32.toBitVec_ofInt]
  rw [BitVec.ofNat_xor, BitVec.ofNat_and, show BitVec.ofInt 32 (-1) = BitVec.allOnes 32 by decide]
  ext i hi
  simp only [BitVec.getElem_and, BitVec.getElem_xor, BitVec.getElem_allOnes]
  cases (BitVec.ofNat 32 a)[i] <;> cases (BitVec.ofNat 32 b)[i] <;> rfl
/-- bit i of a mask -/
abbrev tb (x : Int) (i : Nat) : Prop := x.toNat.testBit i = true
theorem tb_dec (x : Int) (i : Nat) : tb x i ↔ x.toNat.testBit i = true := Iff.rfl
theorem tb_and {x y : Int} {i : Nat} : tb ((x.toNat &&& y.toNat : Nat) : Int) i ↔ tb x i ∧ tb y i := by simp [tb, Nat.testBit_and]
theorem tb_or {x y : Int} {i : Nat} : tb ((x.toNat ||| y.toNat : Nat) : Int) i ↔ tb x i ∨ tb y i := by simp [tb, Nat.testBit_or]
theorem tb_xor {x y : Int} {i : Nat} : tb ((x.toNat ^^^ y.toNat : Nat) : Int) i ↔ ¬ (tb x i ↔ tb y i) := by
  simp only [tb, Int.toNat_natCast, Nat.testBit_xor]
  cases x.toNat.testBit i <;> cases y.toNat.testBit i <;> simp
theorem tb_wo {x y : Int} {i : Nat} : tb (bwo x y) i ↔ tb x i ∧ ¬ tb y i := by
  simp only [tb, bwo, Int.toNat_natCast, Nat.testBit_xor, Nat.testBit_and]
  cases x.toNat.testBit i <;> cases y.toNat.testBit i <;> simp
theorem tb_one {k i : Nat} : tb (1 * 2 ^ k) i ↔ i = k := by
  have : ((1 : Int) * 2 ^ k) = ((2 ^ k : Nat) : Int) := by simp
  rw [this]
  simp only [tb, Int.toNat_natCast, Nat.testBit_two_pow]
  simp only [decide_eq_true_eq]
  exact eq_comm
theorem tb_bit {x : Int} {k : Nat} : ((x.toNat >>> k) &&& 1 : Nat) = if tb x k then 1 else 0 := by
  unfold tb
  rw [Nat.testBit]
  have h : (x.toNat >>> k) &&& 1 = (x.toNat >>> k) % 2 := Nat.and_one_is_mod _
  rw [Nat.and_comm 1, h]
  rcases Nat.mod_two_eq_zero_or_one (x.toNat >>> k) with e | e <;> simp [e]
theorem tb_lt {x : Int} {n i : Nat} (h : x < 2 ^ n) (hi : n ≤ i) (h0 : 0 ≤ x) : ¬ tb x i := by
  unfold tb
  have : x.toNat < 2 ^ i := by
    have e : (2 : Int) ^ n = ((2 ^ n : Nat) : Int) := by simp
    rw [e] at h
    have : x.toNat < 2 ^ n := by omega
    exact Nat.lt_of_lt_of_le this (Nat.pow_le_pow_right (by omega) hi)
  rw [Nat.testBit_lt_two_pow this]
  decide
section EVLOC
variable {M : Mi} {d pc pc' : Nat} {st : List Value} {h : Hp} {Post : Pst}
theorem Ev.is0 {b0 : Option Value} {t : List (Option Value)} {x : Int} (hd : decode M.2.2.1 pc = .ok (.istore_n 0, 1)) (hn : pc + 1 = pc') (hi : 0 < M.2.2.2.1) (hb : okB (b0 :: t) 0 = true) (k : Ev M d pc' (some (iv x) :: t) st h Post) : Ev M d pc (b0 :: t) (iv x :: st) h Post := Ev.istore_n hd hn hi hb k
theorem Ev.as0 {b0 : Option Value} {t : List (Option Value)} {x : Nat} (hd : decode M.2.2.1 pc = .ok (.astore_n 0, 1)) (hn : pc + 1 = pc') (hi : 0 < M.2.2.2.1) (hb : okB (b0 :: t) 0 = true) (k : Ev M d pc' (some (.ref x) :: t) st h Post) : Ev M d pc (b0 :: t) (.ref x :: st) h Post := Ev.astore_n hd hn hi hb k
theorem Ev.ii0 {t : List (Option Value)} {x n : Int} (hd : decode M.2.2.1 pc = .ok (.iinc 0 n, 3)) (hn : pc + 3 = pc') (hi : 0 < M.2.2.2.1) (hb : okB (some (iv x) :: t) 0 = true) (k : Ev M d pc' (some (iv (x + n)) :: t) st h Post) : Ev M d pc (some (iv x) :: t) st h Post := Ev.iinc hd hn rfl hi hb k
theorem Ev.ls0 {b0 c : Option Value} {t : List (Option Value)} {x : Int} (hd : decode M.2.2.1 pc = .ok (.lstore_n 0, 1)) (hn : pc + 1 = pc') (hi : 0 + 1 < M.2.2.2.1) (hb : okB (b0 :: c :: t) 0 = true) (k : Ev M d pc' (some (jv x) :: none :: t) st h Post) : Ev M d pc (b0 :: c :: t) (jv x :: st) h Post := Ev.lstore_n hd hn hi hb k
theorem Ev.dr0 {b0 : Option Value} {t : List (Option Value)} (k : Ev M d pc (none :: t) st h Post) : Ev M d pc (b0 :: t) st h Post := Ev.drop 0 k
theorem Ev.is1 {b0 b1 : Option Value} {t : List (Option Value)} {x : Int} (hd : decode M.2.2.1 pc = .ok (.istore_n 1, 1)) (hn : pc + 1 = pc') (hi : 1 < M.2.2.2.1) (hb : okB (b0 :: b1 :: t) 1 = true) (k : Ev M d pc' (b0 :: some (iv x) :: t) st h Post) : Ev M d pc (b0 :: b1 :: t) (iv x :: st) h Post := Ev.istore_n hd hn hi hb k
theorem Ev.as1 {b0 b1 : Option Value} {t : List (Option Value)} {x : Nat} (hd : decode M.2.2.1 pc = .ok (.astore_n 1, 1)) (hn : pc + 1 = pc') (hi : 1 < M.2.2.2.1) (hb : okB (b0 :: b1 :: t) 1 = true) (k : Ev M d pc' (b0 :: some (.ref x) :: t) st h Post) : Ev M d pc (b0 :: b1 :: t) (.ref x :: st) h Post := Ev.astore_n hd hn hi hb k
theorem Ev.ii1 {b0 : Option Value} {t : List (Option Value)} {x n : Int} (hd : decode M.2.2.1 pc = .ok (.iinc 1 n, 3)) (hn : pc + 3 = pc') (hi : 1 < M.2.2.2.1) (hb : okB (b0 :: some (iv x) :: t) 1 = true) (k : Ev M d pc' (b0 :: some (iv (x + n)) :: t) st h Post) : Ev M d pc (b0 :: some (iv x) :: t) st h Post := Ev.iinc hd hn rfl hi hb k
theorem Ev.ls1 {b0 b1 c : Option Value} {t : List (Option Value)} {x : Int} (hd : decode M.2.2.1 pc = .ok (.lstore_n 1, 1)) (hn : pc + 1 = pc') (hi : 1 + 1 < M.2.2.2.1) (hb : okB (b0 :: b1 :: c :: t) 1 = true) (k : Ev M d pc' (b0 :: some (jv x) :: none :: t) st h Post) : Ev M d pc (b0 :: b1 :: c :: t) (jv x :: st) h Post := Ev.lstore_n hd hn hi hb k
theorem Ev.dr1 {b0 b1 : Option Value} {t : List (Option Value)} (k : Ev M d pc (b0 :: none :: t) st h Post) : Ev M d pc (b0 :: b1 :: t) st h Post := Ev.drop 1 k
theorem Ev.is2 {b0 b1 b2 : Option Value} {t : List (Option Value)} {x : Int} (hd : decode M.2.2.1 pc = .ok (.istore_n 2, 1)) (hn : pc + 1 = pc') (hi : 2 < M.2.2.2.1) (hb : okB (b0 :: b1 :: b2 :: t) 2 = true) (k : Ev M d pc' (b0 :: b1 :: some (iv x) :: t) st h Post) : Ev M d pc (b0 :: b1 :: b2 :: t) (iv x :: st) h Post := Ev.istore_n hd hn hi hb k
theorem Ev.as2 {b0 b1 b2 : Option Value} {t : List (Option Value)} {x : Nat} (hd : decode M.2.2.1 pc = .ok (.astore_n 2, 1)) (hn : pc + 1 = pc') (hi : 2 < M.2.2.2.1) (hb : okB (b0 :: b1 :: b2 :: t) 2 = true) (k : Ev M d pc' (b0 :: b1 :: some (.ref x) :: t) st h Post) : Ev M d pc (b0 :: b1 :: b2 :: t) (.ref x :: st) h Post := Ev.astore_n hd hn hi hb k
theorem Ev.ii2 {b0 b1 : Option Value} {t : List (Option Value)} {x n : Int} (hd : decode M.2.2.1 pc = .ok (.iinc 2 n, 3)) (hn : pc + 3 = pc') (hi : 2 < M.2.2.2.1) (hb : okB (b0 :: b1 :: some (iv x) :: t) 2 = true) (k : Ev M d pc' (b0 :: b1 :: some (iv (x + n)) :: t) st h Post) : Ev M d pc (b0 :: b1 :: some (iv x) :: t) st h Post := Ev.iinc hd hn rfl hi hb k
theorem Ev.ls2 {b0 b1 b2 c : Option Value} {t : List (Option Value)} {x : Int} (hd : decode M.2.2.1 pc = .ok (.lstore_n 2, 1)) (hn : pc + 1 = pc') (hi : 2 + 1 < M.2.2.2.1) (hb : okB (b0 :: b1 :: b2 :: c :: t) 2 = true) (k : Ev M d pc' (b0 :: b1 :: some (jv x) :: none :: t) st h Post) : Ev M d pc (b0 :: b1 :: b2 :: c :: t) (jv x :: st) h Post := Ev.lstore_n hd hn hi hb k
theorem Ev.dr2 {b0 b1 b2 : Option Value} {t : List (Option Value)} (k : Ev M d pc (b0 :: b1 :: none :: t) st h Post) : Ev M d pc (b0 :: b1 :: b2 :: t) st h Post := Ev.drop 2 k
theorem Ev.is3 {b0 b1 b2 b3 : Option Value} {t : List (Option Value)} {x : Int} (hd : decode M.2.2.1 pc = .ok (.istore_n 3, 1)) (hn : pc + 1 = pc') (hi : 3 < M.2.2.2.1) (hb : okB (b0 :: b1 :: b2 :: b3 :: t) 3 = true) (k : Ev M d pc' (b0 :: b1 :: b2 :: some (iv x) :: t) st h Post) : Ev M d pc (b0 :: b1 :: b2 :: b3 :: t) (iv x :: st) h Post := Ev.istore_n hd hn hi hb k
theorem Ev.as3 {b0 b1 b2 b3 : Option Value} {t : List (Option Value)} {x : Nat} (hd : decode M.2.2.1 pc = .ok (.astore_n 3, 1)) (hn : pc + 1 = pc') (hi : 3 < M.2.2.2.1) (hb : okB (b0 :: b1 :: b2 :: b3 :: t) 3 = true) (k : Ev M d pc' (b0 :: b1 :: b2 :: some (.ref x) :: t) st h Post) : Ev M d pc (b0 :: b1 :: b2 :: b3 :: t) (.ref x :: st) h Post := Ev.astore_n hd hn hi hb k
theorem Ev.ii3 {b0 b1 b2 : Option Value} {t : List (Option Value)} {x n : Int} (hd : decode M.2.2.1 pc = .ok (.iinc 3 n, 3)) (hn : pc + 3 = pc') (hi : 3 < M.2.2.2.1) (hb : okB (b0 :: b1 :: b2 :: some (iv x) :: t) 3 = true) (k : Ev M d pc' (b0 :: b1 :: b2 :: some (iv (x + n)) :: t) st h Post) : Ev M d pc (b0 :: b1 :: b2 :: some (iv x) :: t) st h Post := Ev.iinc hd hn rfl hi hb k
theorem Ev.ls3 {b0 b1 b2 b3 c : Option Value} {t : List (Option Value)} {x : Int} (hd : decode M.2.2.1 pc = .ok (.lstore_n 3, 1)) (hn : pc + 1 = pc') (hi : 3 + 1 < M.2.2.2.1) (hb : okB (b0 :: b1 :: b2 :: b3 :: c :: t) 3 = true) (k : Ev M d pc' (b0 :: b1 :: b2 :: some (jv x) :: none :: t) st h Post) : Ev M d pc (b0 :: b1 :: b2 :: b3 :: c :: t) (jv x :: st) h Post := Ev.lstore_n hd hn hi hb k
theorem Ev.dr3 {b0 b1 b2 b3 : Option Value} {t : List (Option Value)} (k : Ev M d pc (b0 :: b1 :: b2 :: none :: t) st h Post) : Ev M d pc (b0 :: b1 :: b2 :: b3 :: t) st h Post := Ev.drop 3 k
theorem Ev.is4 {b0 b1 b2 b3 b4 : Option Value} {t : List (Option Value)} {x : Int} (hd : decode M.2.2.1 pc = .ok (.istore 4, 2)) (hn : pc + 2 = pc') (hi : 4 < M.2.2.2.1) (hb : okB (b0 :: b1 :: b2 :: b3 :: b4 :: t) 4 = true) (k : Ev M d pc' (b0 :: b1 :: b2 :: b3 :: some (iv x) :: t) st h Post) : Ev M d pc (b0 :: b1 :: b2 :: b3 :: b4 :: t) (iv x :: st) h Post := Ev.istore hd hn hi hb k
theorem Ev.as4 {b0 b1 b2 b3 b4 : Option Value} {t : List (Option Value)} {x : Nat} (hd : decode M.2.2.1 pc = .ok (.astore 4, 2)) (hn : pc + 2 = pc') (hi : 4 < M.2.2.2.1) (hb : okB (b0 :: b1 :: b2 :: b3 :: b4 :: t) 4 = true) (k : Ev M d pc' (b0 :: b1 :: b2 :: b3 :: some (.ref x) :: t) st h Post) : Ev M d pc (b0 :: b1 :: b2 :: b3 :: b4 :: t) (.ref x :: st) h Post := Ev.astore hd hn hi hb k
theorem Ev.ii4 {b0 b1 b2 b3 : Option Value} {t : List (Option Value)} {x n : Int} (hd : decode M.2.2.1 pc = .ok (.iinc 4 n, 3)) (hn : pc + 3 = pc') (hi : 4 < M.2.2.2.1) (hb : okB (b0 :: b1 :: b2 :: b3 :: some (iv x) :: t) 4 = true) (k : Ev M d pc' (b0 :: b1 :: b2 :: b3 :: some (iv (x + n)) :: t) st h Post) : Ev M d pc (b0 :: b1 :: b2 :: b3 :: some (iv x) :: t) st h Post := Ev.iinc hd hn rfl hi hb k
theorem Ev.ls4 {b0 b1 b2 b3 b4 c : Option Value} {t : List (Option Value)} {x : Int} (hd : decode M.2.2.1 pc = .ok (.lstore 4, 2)) (hn : pc + 2 = pc') (hi : 4 + 1 < M.2.2.2.1) (hb : okB (b0 :: b1 :: b2 :: b3 :: b4 :: c :: t) 4 = true) (k : Ev M d pc' (b0 :: b1 :: b2 :: b3 :: some (jv x) :: none :: t) st h Post) : Ev M d pc (b0 :: b1 :: b2 :: b3 :: b4 :: c :: t) (jv x :: st) h Post := Ev.lstore hd hn hi hb k
theorem Ev.dr4 {b0 b1 b2 b3 b4 : Option Value} {t : List (Option Value)} (k : Ev M d pc (b0 :: b1 :: b2 :: b3 :: none :: t) st h Post) : Ev M d pc (b0 :: b1 :: b2 :: b3 :: b4 :: t) st h Post := Ev.drop 4 k
theorem Ev.is5 {b0 b1 b2 b3 b4 b5 : Option Value} {t : List (Option Value)} {x : Int} (hd : decode M.2.2.1 pc = .ok (.istore 5, 2)) (hn : pc + 2 = pc') (hi : 5 < M.2.2.2.1) (hb : okB (b0 :: b1 :: b2 :: b3 :: b4 :: b5 :: t) 5 = true) (k : Ev M d pc' (b0 :: b1 :: b2 :: b3 :: b4 :: some (iv x) :: t) st h Post) : Ev M d pc (b0 :: b1 :: b2 :: b3 :: b4 :: b5 :: t) (iv x :: st) h Post := Ev.istore hd hn hi hb k
theorem Ev.as5 {b0 b1 b2 b3 b4 b5 : Option Value} {t : List (Option Value)} {x : Nat} (hd : decode M.2.2.1 pc = .ok (.astore 5, 2)) (hn : pc + 2 = pc') (hi : 5 < M.2.2.2.1) (hb : okB (b0 :: b1 :: b2 :: b3 :: b4 :: b5 :: t) 5 = true) (k : Ev M d pc' (b0 :: b1 :: b2 :: b3 :: b4 :: some (.ref x) :: t) st h Post) : Ev M d pc (b0 :: b1 :: b2 :: b3 :: b4 :: b5 :: t) (.ref x :: st) h Post := Ev.astore hd hn hi hb k
theorem Ev.ii5 {b0 b1 b2 b3 b4 : Option Value} {t : List (Option Value)} {x n : Int} (hd : decode M.2.2.1 pc = .ok (.iinc 5 n, 3)) (hn : pc + 3 = pc') (hi : 5 < M.2.2.2.1) (hb : okB (b0 :: b1 :: b2 :: b3 :: b4 :: some (iv x) :: t) 5 = true) (k : Ev M d pc' (b0 :: b1 :: b2 :: b3 :: b4 :: some (iv (x + n)) :: t) st h Post) : Ev M d pc (b0 :: b1 :: b2 :: b3 :: b4 :: some (iv x) :: t) st h Post := Ev.iinc hd hn rfl hi hb k
theorem Ev.ls5 {b0 b1 b2 b3 b4 b5 c : Option Value} {t : List (Option Value)} {x : Int} (hd : decode M.2.2.1 pc = .ok (.lstore 5, 2)) (hn : pc + 2 = pc') (hi : 5 + 1 < M.2.2.2.1) (hb : okB (b0 :: b1 :: b2 :: b3 :: b4 :: b5 :: c :: t) 5 = true) (k : Ev M d pc' (b0 :: b1 :: b2 :: b3 :: b4 :: some (jv x) :: none :: t) st h Post) : Ev M d pc (b0 :: b1 :: b2 :: b3 :: b4 :: b5 :: c :: t) (jv x :: st) h Post := Ev.lstore hd hn hi hb k
theorem Ev.dr5 {b0 b1 b2 b3 b4 b5 : Option Value} {t : List (Option Value)} (k : Ev M d pc (b0 :: b1 :: b2 :: b3 :: b4 :: none :: t) st h Post) : Ev M d pc (b0 :: b1 :: b2 :: b3 :: b4 :: b5 :: t) st h Post := Ev.drop 5 k
theorem Ev.is6 {b0 b1 b2 b3 b4 b5 b6 : Option Value} {t : List (Option Value)} {x : Int} (hd : decode M.2.2.1 pc = .ok (.istore 6, 2)) (hn : pc + 2 = pc') (hi : 6 < M.2.2.2.1) (hb : okB (b0 :: b1 :: b2 :: b3 :: b4 :: b5 :: b6 :: t) 6 = true) (k : Ev M d pc' (b0 :: b1 :: b2 :: b3 :: b4 :: b5 :: some (iv x) :: t) st h Post) : Ev M d pc (b0 :: b1 :: b2 :: b3 :: b4 :: b5 :: b6 :: t) (iv x :: st) h Post := Ev.istore hd hn hi hb k
theorem Ev.as6 {b0 b1 b2 b3 b4 b5 b6 : Option Value} {t : List (Option Value)} {x : Nat} (hd : decode M.2.2.1 pc = .ok (.astore 6, 2)) (hn : pc + 2 = pc') (hi : 6 < M.2.2.2.1) (hb : okB (b0 :: b1 :: b2 :: b3 :: b4 :: b5 :: b6 :: t) 6 = true) (k : Ev M d pc' (b0 :: b1 :: b2 :: b3 :: b4 :: b5 :: some (.ref x) :: t) st h Post) : Ev M d pc (b0 :: b1 :: b2 :: b3 :: b4 :: b5 :: b6 :: t) (.ref x :: st) h Post := Ev.astore hd hn hi hb k
theorem Ev.ii6 {b0 b1 b2 b3 b4 b5 : Option Value} {t : List (Option Value)} {x n : Int} (hd : decode M.2.2.1 pc = .ok (.iinc 6 n, 3)) (hn : pc + 3 = pc') (hi : 6 < M.2.2.2.1) (hb : okB (b0 :: b1 :: b2 :: b3 :: b4 :: b5 :: some (iv x) :: t) 6 = true) (k : Ev M d pc' (b0 :: b1 :: b2 :: b3 :: b4 :: b5 :: some (iv (x + n)) :: t) st h Post) : Ev M d pc (b0 :: b1 :: b2 :: b3 :: b4 :: b5 :: some (iv x) :: t) st h Post := Ev.iinc hd hn rfl hi hb k
theorem Ev.ls6 {b0 b1 b2 b3 b4 b5 b6 c : Option Value} {t : List (Option Value)} {x : Int} (hd : decode M.2.2.1 pc = .ok (.lstore 6, 2)) (hn : pc + 2 = pc') (hi : 6 + 1 < M.2.2.2.1) (hb : okB (b0 :: b1 :: b2 :: b3 :: b4 :: b5 :: b6 :: c :: t) 6 = true) (k : Ev M d pc' (b0 :: b1 :: b2 :: b3 :: b4 :: b5 :: some (jv x) :: none :: t) st h Post) : Ev M d pc (b0 :: b1 :: b2 :: b3 :: b4 :: b5 :: b6 :: c :: t) (jv x :: st) h Post := Ev.lstore hd hn hi hb k
theorem Ev.dr6 {b0 b1 b2 b3 b4 b5 b6 : Option Value} {t : List (Option Value)} (k : Ev M d pc (b0 :: b1 :: b2 :: b3 :: b4 :: b5 :: none :: t) st h Post) : Ev M d pc (b0 :: b1 :: b2 :: b3 :: b4 :: b5 :: b6 :: t) st h Post := Ev.drop 6 k
theorem Ev.is7 {b0 b1 b2 b3 b4 b5 b6 b7 : Option Value} {t : List (Option Value)} {x : Int} (hd : decode M.2.2.1 pc = .ok (.istore 7, 2)) (hn : pc + 2 = pc') (hi : 7 < M.2.2.2.1) (hb : okB (b0 :: b1 :: b2 :: b3 :: b4 :: b5 :: b6 :: b7 :: t) 7 = true) (k : Ev M d pc' (b0 :: b1 :: b2 :: b3 :: b4 :: b5 :: b6 :: some (iv x) :: t) st h Post) : Ev M d pc (b0 :: b1 :: b2 :: b3 :: b4 :: b5 :: b6 :: b7 :: t) (iv x :: st) h Post := Ev.istore hd hn hi hb k
theorem Ev.as7 {b0 b1 b2 b3 b4 b5 b6 b7 : Option Value} {t : List (Option Value)} {x : Nat} (hd : decode M.2.2.1 pc = .ok (.astore 7, 2)) (hn : pc + 2 = pc') (hi : 7 < M.2.2.2.1) (hb : okB (b0 :: b1 :: b2 :: b3 :: b4 :: b5 :: b6 :: b7 :: t) 7 = true) (k : Ev M d pc' (b0 :: b1 :: b2 :: b3 :: b4 :: b5 :: b6 :: some (.ref x) :: t) st h Post) : Ev M d pc (b0 :: b1 :: b2 :: b3 :: b4 :: b5 :: b6 :: b7 :: t) (.ref x :: st) h Post := Ev.astore hd hn hi hb k
theorem Ev.ii7 {b0 b1 b2 b3 b4 b5 b6 : Option Value} {t : List (Option Value)} {x n : Int} (hd : decode M.2.2.1 pc = .ok (.iinc 7 n, 3)) (hn : pc + 3 = pc') (hi : 7 < M.2.2.2.1) (hb : okB (b0 :: b1 :: b2 :: b3 :: b4 :: b5 :: b6 :: some (iv x) :: t) 7 = true) (k : Ev M d pc' (b0 :: b1 :: b2 :: b3 :: b4 :: b5 :: b6 :: some (iv (x + n)) :: t) st h Post) : Ev M d pc (b0 :: b1 :: b2 :: b3 :: b4 :: b5 :: b6 :: some (iv x) :: t) st h Post := Ev.iinc hd hn rfl hi hb k
theorem Ev.ls7 {b0 b1 b2 b3 b4 b5 b6 b7 c : Option Value} {t : List (Option Value)} {x : Int} (hd : decode M.2.2.1 pc = .ok (.lstore 7, 2)) (hn : pc + 2 = pc') (hi : 7 + 1 < M.2.2.2.1) (hb : okB (b0 :: b1 :: b2 :: b3 :: b4 :: b5 :: b6 :: b7 :: c :: t) 7 = true) (k : Ev M d pc' (b0 :: b1 :: b2 :: b3 :: b4 :: b5 :: b6 :: some (jv x) :: none :: t) st h Post) : Ev M d pc (b0 :: b1 :: b2 :: b3 :: b4 :: b5 :: b6 :: b7 :: c :: t) (jv x :: st) h Post := Ev.lstore hd hn hi hb k
theorem Ev.dr7 {b0 b1 b2 b3 b4 b5 b6 b7 : Option Value} {t : List (Option Value)} (k : Ev M d pc (b0 :: b1 :: b2 :: b3 :: b4 :: b5 :: b6 :: none :: t) st h Post) : Ev M d pc (b0 :: b1 :: b2 :: b3 :: b4 :: b5 :: b6 :: b7 :: t) st h Post := Ev.drop 7 k
theorem Ev.is8 {b0 b1 b2 b3 b4 b5 b6 b7 b8 : Option Value} {t : List (Option Value)} {x : Int} (hd : decode M.2.2.1 pc = .ok (.istore 8, 2)) (hn : pc + 2 = pc') (hi : 8 < M.2.2.2.1) (hb : okB (b0 :: b1 :: b2 :: b3 :: b4 :: b5 :: b6 :: b7 :: b8 :: t) 8 = true) (k : Ev M d pc' (b0 :: b1 :: b2 :: b3 :: b4 :: b5 :: b6 :: b7 :: some (iv x) :: t) st h Post) : Ev M d pc (b0 :: b1 :: b2 :: b3 :: b4 :: b5 :: b6 :: b7 :: b8 :: t) (iv x :: st) h Post := Ev.istore hd hn hi hb k
theorem Ev.as8 {b0 b1 b2 b3 b4 b5 b6 b7 b8 : Option Value} {t : List (Option Value)} {x : Nat} (hd : decode M.2.2.1 pc = .ok (.astore 8, 2)) (hn : pc + 2 = pc') (hi : 8 < M.2.2.2.1) (hb : okB (b0 :: b1 :: b2 :: b3 :: b4 :: b5 :: b6 :: b7 :: b8 :: t) 8 = true) (k : Ev M d pc' (b0 :: b1 :: b2 :: b3 :: b4 :: b5 :: b6 :: b7 :: some (.ref x) :: t) st h Post) : Ev M d pc (b0 :: b1 :: b2 :: b3 :: b4 :: b5 :: b6 :: b7 :: b8 :: t) (.ref x :: st) h Post := Ev.astore hd hn hi hb k
theorem Ev.ii8 {b0 b1 b2 b3 b4 b5 b6 b7 : Option Value} {t : List (Option Value)} {x n : Int} (hd : decode M.2.2.1 pc = .ok (.iinc 8 n, 3)) (hn : pc + 3 = pc') (hi : 8 < M.2.2.2.1) (hb : okB (b0 :: b1 :: b2 :: b3 :: b4 :: b5 :: b6 :: b7 :: some (iv x) :: t) 8 = true) (k : Ev M d pc' (b0 :: b1 :: b2 :: b3 :: b4 :: b5 :: b6 :: b7 :: some (iv (x + n)) :: t) st h Post) : Ev M d pc (b0 :: b1 :: b2 :: b3 :: b4 :: b5 :: b6 :: b7 :: some (iv x) :: t) st h Post := Ev.iinc hd hn rfl hi hb k
theorem Ev.ls8 {b0 b1 b2 b3 b4 b5 b6 b7 b8 c : Option Value} {t : List (Option Value)} {x : Int} (hd : decode M.2.2.1 pc = .ok (.lstore 8, 2)) (hn : pc + 2 = pc') (hi : 8 + 1 < M.2.2.2.1) (hb : okB (b0 :: b1 :: b2 :: b3 :: b4 :: b5 :: b6 :: b7 :: b8 :: c :: t) 8 = true) (k : Ev M d pc' (b0 :: b1 :: b2 :: b3 :: b4 :: b5 :: b6 :: b7 :: some (jv x) :: none :: t) st h Post) : Ev M d pc (b0 :: b1 :: b2 :: b3 :: b4 :: b5 :: b6 :: b7 :: b8 :: c :: t) (jv x :: st) h Post := Ev.lstore hd hn hi hb k
theorem Ev.dr8 {b0 b1 b2 b3 b4 b5 b6 b7 b8 : Option Value} {t : List (Option Value)} (k : Ev M d pc (b0 :: b1 :: b2 :: b3 :: b4 :: b5 :: b6 :: b7 :: none :: t) st h Post) : Ev M d pc (b0 :: b1 :: b2 :: b3 :: b4 :: b5 :: b6 :: b7 :: b8 :: t) st h Post := Ev.drop 8 k
theorem Ev.is9 {b0 b1 b2 b3 b4 b5 b6 b7 b8 b9 : Option Value} {t : List (Option Value)} {x : Int} (hd : decode M.2.2.1 pc = .ok (.istore 9, 2)) (hn : pc + 2 = pc') (hi : 9 < M.2.2.2.1) (hb : okB (b0 :: b1 :: b2 :: b3 :: b4 :: b5 :: b6 :: b7 :: b8 :: b9 :: t) 9 = true) (k : Ev M d pc' (b0 :: b1 :: b2 :: b3 :: b4 :: b5 :: b6 :: b7 :: b8 :: some (iv x) :: t) st h Post) : Ev M d pc (b0 :: b1 :: b2 :: b3 :: b4 :: b5 :: b6 :: b7 :: b8 :: b9 :: t) (iv x :: st) h Post := Ev.istore hd hn hi hb k
theorem Ev.as9 {b0 b1 b2 b3 b4 b5 b6 b7 b8 b9 : Option Value} {t : List (Option Value)} {x : Nat} (hd : decode M.2.2.1 pc = .ok (.astore 9, 2)) (hn : pc + 2 = pc') (hi : 9 < M.2.2.2.1) (hb : okB (b0 :: b1 :: b2 :: b3 :: b4 :: b5 :: b6 :: b7 :: b8 :: b9 :: t) 9 = true) (k : Ev M d pc' (b0 :: b1 :: b2 :: b3 :: b4 :: b5 :: b6 :: b7 :: b8 :: some (.ref x) :: t) st h Post) : Ev M d pc (b0 :: b1 :: b2 :: b3 :: b4 :: b5 :: b6 :: b7 :: b8 :: b9 :: t) (.ref x :: st) h Post := Ev.astore hd hn hi hb k
theorem Ev.ii9 {b0 b1 b2 b3 b4 b5 b6 b7 b8 : Option Value} {t : List (Option Value)} {x n : Int} (hd : decode M.2.2.1 pc = .ok (.iinc 9 n, 3)) (hn : pc + 3 = pc') (hi : 9 < M.2.2.2.1) (hb : okB (b0 :: b1 :: b2 :: b3 :: b4 :: b5 :: b6 :: b7 :: b8 :: some (iv x) :: t) 9 = true) (k : Ev M d pc' (b0 :: b1 :: b2 :: b3 :: b4 :: b5 :: b6 :: b7 :: b8 :: some (iv (x + n)) :: t) st h Post) : Ev M d pc (b0 :: b1 :: b2 :: b3 :: b4 :: b5 :: b6 :: b7 :: b8 :: some (iv x) :: t) st h Post := Ev.iinc hd hn rfl hi hb k
theorem Ev.ls9 {b0 b1 b2 b3 b4 b5 b6 b7 b8 b9 c : Option Value} {t : List (Option Value)} {x : Int} (hd : decode M.2.2.1 pc = .ok (.lstore 9, 2)) (hn : pc + 2 = pc') (hi : 9 + 1 < M.2.2.2.1) (hb : okB (b0 :: b1 :: b2 :: b3 :: b4 :: b5 :: b6 :: b7 :: b8 :: b9 :: c :: t) 9 = true) (k : Ev M d pc' (b0 :: b1 :: b2 :: b3 :: b4 :: b5 :: b6 :: b7 :: b8 :: some (jv x) :: none :: t) st h Post) : Ev M d pc (b0 :: b1 :: b2 :: b3 :: b4 :: b5 :: b6 :: b7 :: b8 :: b9 :: c :: t) (jv x :: st) h Post := Ev.lstore hd hn hi hb k
theorem Ev.dr9 {b0 b1 b2 b3 b4 b5 b6 b7 b8 b9 : Option Value} {t : List (Option Value)} (k : Ev M d pc (b0 :: b1 :: b2 :: b3 :: b4 :: b5 :: b6 :: b7 :: b8 :: none :: t) st h Post) : Ev M d pc (b0 :: b1 :: b2 :: b3 :: b4 :: b5 :: b6 :: b7 :: b8 :: b9 :: t) st h Post := Ev.drop 9 k
theorem Ev.is10 {b0 b1 b2 b3 b4 b5 b6 b7 b8 b9 b10 : Option Value} {t : List (Option Value)} {x : Int} (hd : decode M.2.2.1 pc = .ok (.istore 10, 2)) (hn : pc + 2 = pc') (hi : 10 < M.2.2.2.1) (hb : okB (b0 :: b1 :: b2 :: b3 :: b4 :: b5 :: b6 :: b7 :: b8 :: b9 :: b10 :: t) 10 = true) (k : Ev M d pc' (b0 :: b1 :: b2 :: b3 :: b4 :: b5 :: b6 :: b7 :: b8 :: b9 :: some (iv x) :: t) st h Post) : Ev M d pc (b0 :: b1 :: b2 :: b3 :: b4 :: b5 :: b6 :: b7 :: b8 :: b9 :: b10 :: t) (iv x :: st) h Post := Ev.istore hd hn hi hb k
theorem Ev.as10 {b0 b1 b2 b3 b4 b5 b6 b7 b8 b9 b10 : Option Value} {t : List (Option Value)} {x : Nat} (hd : decode M.2.2.1 pc = .ok (.astore 10, 2)) (hn : pc + 2 = pc') (hi : 10 < M.2.2.2.1) (hb : okB (b0 :: b1 :: b2 :: b3 :: b4 :: b5 :: b6 :: b7 :: b8 :: b9 :: b10 :: t) 10 = true) (k : Ev M d pc' (b0 :: b1 :: b2 :: b3 :: b4 :: b5 :: b6 :: b7 :: b8 :: b9 :: some (.ref x) :: t) st h Post) : Ev M d pc (b0 :: b1 :: b2 :: b3 :: b4 :: b5 :: b6 :: b7 :: b8 :: b9 :: b10 :: t) (.ref x :: st) h Post := Ev.astore hd hn hi hb k
theorem Ev.ii10 {b0 b1 b2 b3 b4 b5 b6 b7 b8 b9 : Option Value} {t : List (Option Value)} {x n : Int} (hd : decode M.2.2.1 pc = .ok (.iinc 10 n, 3)) (hn : pc + 3 = pc') (hi : 10 < M.2.2.2.1) (hb : okB (b0 :: b1 :: b2 :: b3 :: b4 :: b5 :: b6 :: b7 :: b8 :: b9 :: some (iv x) :: t) 10 = true) (k : Ev M d pc' (b0 :: b1 :: b2 :: b3 :: b4 :: b5 :: b6 :: b7 :: b8 :: b9 :: some (iv (x + n)) :: t) st h Post) : Ev M d pc (b0 :: b1 :: b2 :: b3 :: b4 :: b5 :: b6 :: b7 :: b8 :: b9 :: some (iv x) :: t) st h Post := Ev.iinc hd hn rfl hi hb k
theorem Ev.ls10 {b0 b1 b2 b3 b4 b5 b6 b7 b8 b9 b10 c : Option Value} {t : List (Option Value)} {x : Int} (hd : decode M.2.2.1 pc = .ok (.lstore 10, 2)) (hn : pc + 2 = pc') (hi : 10 + 1 < M.2.2.2.1) (hb : okB (b0 :: b1 :: b2 :: b3 :: b4 :: b5 :: b6 :: b7 :: b8 :: b9 :: b10 :: c :: t) 10 = true) (k : Ev M d pc' (b0 :: b1 :: b2 :: b3 :: b4 :: b5 :: b6 :: b7 :: b8 :: b9 :: some (jv x) :: none :: t) st h Post) : Ev M d pc (b0 :: b1 :: b2 :: b3 :: b4 :: b5 :: b6 :: b7 :: b8 :: b9 :: b10 :: c :: t) (jv x :: st) h Post := Ev.lstore hd hn hi hb k
theorem Ev.dr10 {b0 b1 b2 b3 b4 b5 b6 b7 b8 b9 b10 : Option Value} {t : List (Option Value)} (k : Ev M d pc (b0 :: b1 :: b2 :: b3 :: b4 :: b5 :: b6 :: b7 :: b8 :: b9 :: none :: t) st h Post) : Ev M d pc (b0 :: b1 :: b2 :: b3 :: b4 :: b5 :: b6 :: b7 :: b8 :: b9 :: b10 :: t) st h Post := Ev.drop 10 k
theorem Ev.is11 {b0 b1 b2 b3 b4 b5 b6 b7 b8 b9 b10 b11 : Option Value} {t : List (Option Value)} {x : Int} (hd : decode M.2.2.1 pc = .ok (.istore 11, 2)) (hn : pc + 2 = pc') (hi : 11 < M.2.2.2.1) (hb : okB (b0 :: b1 :: b2 :: b3 :: b4 :: b5 :: b6 :: b7 :: b8 :: b9 :: b10 :: b11 :: t) 11 = true) (k : Ev M d pc' (b0 :: b1 :: b2 :: b3 :: b4 :: b5 :: b6 :: b7 :: b8 :: b9 :: b10 :: some (iv x) :: t) st h Post) : Ev M d pc (b0 :: b1 :: b2 :: b3 :: b4 :: b5 :: b6 :: b7 :: b8 :: b9 :: b10 :: b11 :: t) (iv x :: st) h Post := Ev.istore hd hn hi hb k
theorem Ev.as11 {b0 b1 b2 b3 b4 b5 b6 b7 b8 b9 b10 b11 : Option Value} {t : List (Option Value)} {x : Nat} (hd : decode M.2.2.1 pc = .ok (.astore 11, 2)) (hn : pc + 2 = pc') (hi : 11 < M.2.2.2.1) (hb : okB (b0 :: b1 :: b2 :: b3 :: b4 :: b5 :: b6 :: b7 :: b8 :: b9 :: b10 :: b11 :: t) 11 = true) (k : Ev M d pc' (b0 :: b1 :: b2 :: b3 :: b4 :: b5 :: b6 :: b7 :: b8 :: b9 :: b10 :: some (.ref x) :: t) st h Post) : Ev M d pc (b0 :: b1 :: b2 :: b3 :: b4 :: b5 :: b6 :: b7 :: b8 :: b9 :: b10 :: b11 :: t) (.ref x :: st) h Post := Ev.astore hd hn hi hb k
theorem Ev.ii11 {b0 b1 b2 b3 b4 b5 b6 b7 b8 b9 b10 : Option Value} {t : List (Option Value)} {x n : Int} (hd : decode M.2.2.1 pc = .ok (.iinc 11 n, 3)) (hn : pc + 3 = pc') (hi : 11 < M.2.2.2.1) (hb : okB (b0 :: b1 :: b2 :: b3 :: b4 :: b5 :: b6 :: b7 :: b8 :: b9 :: b10 :: some (iv x) :: t) 11 = true) (k : Ev M d pc' (b0 :: b1 :: b2 :: b3 :: b4 :: b5 :: b6 :: b7 :: b8 :: b9 :: b10 :: some (iv (x + n)) :: t) st h Post) : Ev M d pc (b0 :: b1 :: b2 :: b3 :: b4 :: b5 :: b6 :: b7 :: b8 :: b9 :: b10 :: some (iv x) :: t) st h Post := Ev.iinc hd hn rfl hi hb k
theorem Ev.ls11 {b0 b1 b2 b3 b4 b5 b6 b7 b8 b9 b10 b11 c : Option Value} {t : List (Option Value)} {x : Int} (hd : decode M.2.2.1 pc = .ok (.lstore 11, 2)) (hn : pc + 2 = pc') (hi : 11 + 1 < M.2.2.2.1) (hb : okB (b0 :: b1 :: b2 :: b3 :: b4 :: b5 :: b6 :: b7 :: b8 :: b9 :: b10 :: b11 :: c :: t) 11 = true) (k : Ev M d pc' (b0 :: b1 :: b2 :: b3 :: b4 :: b5 :: b6 :: b7 :: b8 :: b9 :: b10 :: some (jv x) :: none :: t) st h Post) : Ev M d pc (b0 :: b1 :: b2 :: b3 :: b4 :: b5 :: b6 :: b7 :: b8 :: b9 :: b10 :: b11 :: c :: t) (jv x :: st) h Post := Ev.lstore hd hn hi hb k
theorem Ev.dr11 {b0 b1 b2 b3 b4 b5 b6 b7 b8 b9 b10 b11 : Option Value} {t : List (Option Value)} (k : Ev M d pc (b0 :: b1 :: b2 :: b3 :: b4 :: b5 :: b6 :: b7 :: b8 :: b9 :: b10 :: none :: t) st h Post) : Ev M d pc (b0 :: b1 :: b2 :: b3 :: b4 :: b5 :: b6 :: b7 :: b8 :: b9 :: b10 :: b11 :: t) st h Post := Ev.drop 11 k
theorem Ev.is12 {b0 b1 b2 b3 b4 b5 b6 b7 b8 b9 b10 b11 b12 : Option Value} {t : List (Option Value)} {x : Int} (hd : decode M.2.2.1 pc = .ok (.istore 12, 2)) (hn : pc + 2 = pc') (hi : 12 < M.2.2.2.1) (hb : okB (b0 :: b1 :: b2 :: b3 :: b4 :: b5 :: b6 :: b7 :: b8 :: b9 :: b10 :: b11 :: b12 :: t) 12 = true) (k : Ev M d pc' (b0 :: b1 :: b2 :: b3 :: b4 :: b5 :: b6 :: b7 :: b8 :: b9 :: b10 :: b11 :: some (iv x) :: t) st h Post) : Ev M d pc (b0 :: b1 :: b2 :: b3 :: b4 :: b5 :: b6 :: b7 :: b8 :: b9 :: b10 :: b11 :: b12 :: t) (iv x :: st) h Post := Ev.istore hd hn hi hb k
theorem Ev.as12 {b0 b1 b2 b3 b4 b5 b6 b7 b8 b9 b10 b11 b12 : Option Value} {t : List (Option Value)} {x : Nat} (hd : decode M.2.2.1 pc = .ok (.astore 12, 2)) (hn : pc + 2 = pc') (hi : 12 < M.2.2.2.1) (hb : okB (b0 :: b1 :: b2 :: b3 :: b4 :: b5 :: b6 :: b7 :: b8 :: b9 :: b10 :: b11 :: b12 :: t) 12 = true) (k : Ev M d pc' (b0 :: b1 :: b2 :: b3 :: b4 :: b5 :: b6 :: b7 :: b8 :: b9 :: b10 :: b11 :: some (.ref x) :: t) st h Post) : Ev M d pc (b0 :: b1 :: b2 :: b3 :: b4 :: b5 :: b6 :: b7 :: b8 :: b9 :: b10 :: b11 :: b12 :: t) (.ref x :: st) h Post := Ev.astore hd hn hi hb k
theorem Ev.ii12 {b0 b1 b2 b3 b4 b5 b6 b7 b8 b9 b10 b11 : Option Value} {t : List (Option Value)} {x n : Int} (hd : decode M.2.2.1 pc = .ok (.iinc 12 n, 3)) (hn : pc + 3 = pc') (hi : 12 < M.2.2.2.1) (hb : okB (b0 :: b1 :: b2 :: b3 :: b4 :: b5 :: b6 :: b7 :: b8 :: b9 :: b10 :: b11 :: some (iv x) :: t) 12 = true) (k : Ev M d pc' (b0 :: b1 :: b2 :: b3 :: b4 :: b5 :: b6 :: b7 :: b8 :: b9 :: b10 :: b11 :: some (iv (x + n)) :: t) st h Post) : Ev M d pc (b0 :: b1 :: b2 :: b3 :: b4 :: b5 :: b6 :: b7 :: b8 :: b9 :: b10 :: b11 :: some (iv x) :: t) st h Post := Ev.iinc hd hn rfl hi hb k
theorem Ev.ls12 {b0 b1 b2 b3 b4 b5 b6 b7 b8 b9 b10 b11 b12 c : Option Value} {t : List (Option Value)} {x : Int} (hd : decode M.2.2.1 pc = .ok (.lstore 12, 2)) (hn : pc + 2 = pc') (hi : 12 + 1 < M.2.2.2.1) (hb : okB (b0 :: b1 :: b2 :: b3 :: b4 :: b5 :: b6 :: b7 :: b8 :: b9 :: b10 :: b11 :: b12 :: c :: t) 12 = true) (k : Ev M d pc' (b0 :: b1 :: b2 :: b3 :: b4 :: b5 :: b6 :: b7 :: b8 :: b9 :: b10 :: b11 :: some (jv x) :: none :: t) st h Post) : Ev M d pc (b0 :: b1 :: b2 :: b3 :: b4 :: b5 :: b6 :: b7 :: b8 :: b9 :: b10 :: b11 :: b12 :: c :: t) (jv x :: st) h Post := Ev.lstore hd hn hi hb k
theorem Ev.dr12 {b0 b1 b2 b3 b4 b5 b6 b7 b8 b9 b10 b11 b12 : Option Value} {t : List (Option Value)} (k : Ev M d pc (b0 :: b1 :: b2 :: b3 :: b4 :: b5 :: b6 :: b7 :: b8 :: b9 :: b10 :: b11 :: none :: t) st h Post) : Ev M d pc (b0 :: b1 :: b2 :: b3 :: b4 :: b5 :: b6 :: b7 :: b8 :: b9 :: b10 :: b11 :: b12 :: t) st h Post := Ev.drop 12 k
theorem Ev.is13 {b0 b1 b2 b3 b4 b5 b6 b7 b8 b9 b10 b11 b12 b13 : Option Value} {t : List (Option Value)} {x : Int} (hd : decode M.2.2.1 pc = .ok (.istore 13, 2)) (hn : pc + 2 = pc') (hi : 13 < M.2.2.2.1) (hb : okB (b0 :: b1 :: b2 :: b3 :: b4 :: b5 :: b6 :: b7 :: b8 :: b9 :: b10 :: b11 :: b12 :: b13 :: t) 13 = true) (k : Ev M d pc' (b0 :: b1 :: b2 :: b3 :: b4 :: b5 :: b6 :: b7 :: b8 :: b9 :: b10 :: b11 :: b12 :: some (iv x) :: t) st h Post) : Ev M d pc (b0 :: b1 :: b2 :: b3 :: b4 :: b5 :: b6 :: b7 :: b8 :: b9 :: b10 :: b11 :: b12 :: b13 :: t) (iv x :: st) h Post := Ev.istore hd hn hi hb k
theorem Ev.as13 {b0 b1 b2 b3 b4 b5 b6 b7 b8 b9 b10 b11 b12 b13 : Option Value} {t : List (Option Value)} {x : Nat} (hd : decode M.2.2.1 pc = .ok (.astore 13, 2)) (hn : pc + 2 = pc') (hi : 13 < M.2.2.2.1) (hb : okB (b0 :: b1 :: b2 :: b3 :: b4 :: b5 :: b6 :: b7 :: b8 :: b9 :: b10 :: b11 :: b12 :: b13 :: t) 13 = true) (k : Ev M d pc' (b0 :: b1 :: b2 :: b3 :: b4 :: b5 :: b6 :: b7 :: b8 :: b9 :: b10 :: b11 :: b12 :: some (.ref x) :: t) st h Post) : Ev M d pc (b0 :: b1 :: b2 :: b3 :: b4 :: b5 :: b6 :: b7 :: b8 :: b9 :: b10 :: b11 :: b12 :: b13 :: t) (.ref x :: st) h Post := Ev.astore hd hn hi hb k
theorem Ev.ii13 {b0 b1 b2 b3 b4 b5 b6 b7 b8 b9 b10 b11 b12 : Option Value} {t : List (Option Value)} {x n : Int} (hd : decode M.2.2.1 pc = .ok (.iinc 13 n, 3)) (hn : pc + 3 = pc') (hi : 13 < M.2.2.2.1) (hb : okB (b0 :: b1 :: b2 :: b3 :: b4 :: b5 :: b6 :: b7 :: b8 :: b9 :: b10 :: b11 :: b12 :: some (iv x) :: t) 13 = true) (k : Ev M d pc' (b0 :: b1 :: b2 :: b3 :: b4 :: b5 :: b6 :: b7 :: b8 :: b9 :: b10 :: b11 :: b12 :: some (iv (x + n)) :: t) st h Post) : Ev M d pc (b0 :: b1 :: b2 :: b3 :: b4 :: b5 :: b6 :: b7 :: b8 :: b9 :: b10 :: b11 :: b12 :: some (iv x) :: t) st h Post := Ev.iinc hd hn rfl hi hb k
theorem Ev.ls13 {b0 b1 b2 b3 b4 b5 b6 b7 b8 b9 b10 b11 b12 b13 c : Option Value} {t : List (Option Value)} {x : Int} (hd : decode M.2.2.1 pc = .ok (.lstore 13, 2)) (hn : pc + 2 = pc') (hi : 13 + 1 < M.2.2.2.1) (hb : okB (b0 :: b1 :: b2 :: b3 :: b4 :: b5 :: b6 :: b7 :: b8 :: b9 :: b10 :: b11 :: b12 :: b13 :: c :: t) 13 = true) (k : Ev M d pc' (b0 :: b1 :: b2 :: b3 :: b4 :: b5 :: b6 :: b7 :: b8 :: b9 :: b10 :: b11 :: b12 :: some (jv x) :: none :: t) st h Post) : Ev M d pc (b0 :: b1 :: b2 :: b3 :: b4 :: b5 :: b6 :: b7 :: b8 :: b9 :: b10 :: b11 :: b12 :: b13 :: c :: t) (jv x :: st) h Post := Ev.lstore hd hn hi hb k
theorem Ev.dr13 {b0 b1 b2 b3 b4 b5 b6 b7 b8 b9 b10 b11 b12 b13 : Option Value} {t : List (Option Value)} (k : Ev M d pc (b0 :: b1 :: b2 :: b3 :: b4 :: b5 :: b6 :: b7 :: b8 :: b9 :: b10 :: b11 :: b12 :: none :: t) st h Post) : Ev M d pc (b0 :: b1 :: b2 :: b3 :: b4 :: b5 :: b6 :: b7 :: b8 :: b9 :: b10 :: b11 :: b12 :: b13 :: t) st h Post := Ev.drop 13 k
theorem Ev.lconst0 {ls : List (Option Value)} (hd : decode M.2.2.1 pc = .ok (.lconst 0, 1)) (hn : pc + 1 = pc') (k : Ev M d pc' ls (jv 0 :: st) h Post) : Ev M d pc ls st h Post := Ev.lconst hd hn k
theorem Ev.lconst1 {ls : List (Option Value)} (hd : decode M.2.2.1 pc = .ok (.lconst 1, 1)) (hn : pc + 1 = pc') (k : Ev M d pc' ls (jv 1 :: st) h Post) : Ev M d pc ls st h Post := Ev.lconst hd hn k
theorem Ev.goto' {ls : List (Option Value)} {off : Int} (hd : decode M.2.2.1 pc = .ok (.goto off, 3)) (hn : (pc : Int) + off = (pc' : Int)) (k : Ev M d pc' ls st h Post) : Ev M d pc ls st h Post := Ev.goto hd hn k
end EVLOC
