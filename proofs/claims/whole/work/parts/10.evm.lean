/-! Constants, switches, Math, System.arraycopy. -/
section EVMA
variable {M : Mi} {d pc pc' : Nat} {ls : List (Option Value)} {st : List Value} {h : Hp} {Post : Pst}
theorem Ev.ldc {idx : Nat} {x : Int} (hd : decode M.2.2.1 pc = .ok (.ldc idx, 2)) (hn : pc + 2 = pc') (hw : Cond.constant M.2.1 idx (Int32.ofInt x) ∈ BG) (k : Ev M d pc' ls (iv x :: st) h Post) : Ev M d pc ls st h Post := by
  subst hn
  intro p l e R s m args below meth c D cy ad A Qc F H locs lsA X
  exact lv_ldc F.1 F.2.1 F.2.2.2.2.2.1 (F.2.2.2.2.2.2.1 _ hw) hd (k p l e R s m args below meth c D cy ad A Qc F H locs lsA X)
theorem Ev.ldcw {idx : Nat} {x : Int} (hd : decode M.2.2.1 pc = .ok (.ldc_w idx, 3)) (hn : pc + 3 = pc') (hw : Cond.constant M.2.1 idx (Int32.ofInt x) ∈ BG) (k : Ev M d pc' ls (iv x :: st) h Post) : Ev M d pc ls st h Post := by
  subst hn
  intro p l e R s m args below meth c D cy ad A Qc F H locs lsA X
  exact lv_ldcw F.1 F.2.1 F.2.2.2.2.2.1 (F.2.2.2.2.2.2.1 _ hw) hd (k p l e R s m args below meth c D cy ad A Qc F H locs lsA X)
theorem Ev.ldc2 {idx : Nat} {x : Int} (hd : decode M.2.2.1 pc = .ok (.ldc2_w idx, 3)) (hn : pc + 3 = pc') (hw : Cond.constantLong M.2.1 idx (Int64.ofInt x) ∈ BG) (k : Ev M d pc' ls (jv x :: st) h Post) : Ev M d pc ls st h Post := by
  subst hn
  intro p l e R s m args below meth c D cy ad A Qc F H locs lsA X
  exact lv_ldc2 F.1 F.2.1 F.2.2.2.2.2.1 (F.2.2.2.2.2.2.1 _ hw) hd (k p l e R s m args below meth c D cy ad A Qc F H locs lsA X)
theorem Ev.tabOut {dflt lo hi x : Int} {offs : Array Int} {len tgt : Nat} (hd : decode M.2.2.1 pc = .ok (.tableswitch dflt lo hi offs, len)) (hx : I32 x) (hq : x < lo ∨ hi < x) (ht : (pc : Int) + dflt = (tgt : Int)) (k : Ev M d tgt ls st h Post) : Ev M d pc ls (iv x :: st) h Post := by
  intro p l e R s m args below meth c D cy ad A Qc F H locs lsA X
  exact lv_tableOut F.1 F.2.1 hd (by rw [i32T hx]; exact hq) ht (k p l e R s m args below meth c D cy ad A Qc F H locs lsA X)
theorem Ev.tabIn {dflt lo hi x off : Int} {offs : Array Int} {len tgt : Nat} (hd : decode M.2.2.1 pc = .ok (.tableswitch dflt lo hi offs, len)) (hx : I32 x) (h1 : lo ≤ x) (h2 : x ≤ hi) (ho : offs[(x - lo).toNat]? = some off) (ht : (pc : Int) + off = (tgt : Int)) (k : Ev M d tgt ls st h Post) : Ev M d pc ls (iv x :: st) h Post := by
  intro p l e R s m args below meth c D cy ad A Qc F H locs lsA X
  exact lv_tableIn F.1 F.2.1 hd (by rw [i32T hx]; omega) (by rw [i32T hx]; omega) (by rw [i32T hx]; exact ho) ht (k p l e R s m args below meth c D cy ad A Qc F H locs lsA X)
theorem Ev.look {dflt x off : Int} {ps : Array (Int × Int)} {len tgt : Nat} (hd : decode M.2.2.1 pc = .ok (.lookupswitch dflt ps, len)) (hp : (ps.toList.zip (ps.toList.drop 1)).all (fun (a, next) => a.1 < next.1) = true) (hx : I32 x) (ho : Op.lookupswitch.offset ps.toList dflt x = off) (ht : (pc : Int) + off = (tgt : Int)) (k : Ev M d tgt ls st h Post) : Ev M d pc ls (iv x :: st) h Post := by
  intro p l e R s m args below meth c D cy ad A Qc F H locs lsA X
  exact lv_lookup F.1 F.2.1 hd hp (by rw [i32T hx]; exact ho) ht (k p l e R s m args below meth c D cy ad A Qc F H locs lsA X)
def WMax (own : String) (idx : Nat) : Prop := Cond.methodLink own idx Lib.Math.max.name ∈ BG ∧ Cond.static Lib.Math.max.name ∈ BG ∧ Cond.initialized "java/lang/Math" ∈ BG ∧ Cond.code Lib.Math.max.name Lib.Math.max.code 2 (some .int) ∈ BG
def WMin (own : String) (idx : Nat) : Prop := Cond.methodLink own idx Lib.Math.min.name ∈ BG ∧ Cond.static Lib.Math.min.name ∈ BG ∧ Cond.initialized "java/lang/Math" ∈ BG ∧ Cond.code Lib.Math.min.name Lib.Math.min.code 2 (some .int) ∈ BG
def WAbs (own : String) (idx : Nat) : Prop := Cond.methodLink own idx Lib.Math.abs.name ∈ BG ∧ Cond.static Lib.Math.abs.name ∈ BG ∧ Cond.initialized "java/lang/Math" ∈ BG ∧ Cond.code Lib.Math.abs.name Lib.Math.abs.code 1 (some .int) ∈ BG
def WMaxL (own : String) (idx : Nat) : Prop := Cond.methodLink own idx Lib.MathLoose.max_long.x ∈ BG ∧ Cond.static Lib.MathLoose.max_long.x ∈ BG ∧ Cond.initialized "java/lang/Math" ∈ BG ∧ Cond.code Lib.MathLoose.max_long.x Lib.MathLoose.max_long.code 4 (some .long) ∈ BG
def WAbsL (own : String) (idx : Nat) : Prop := Cond.methodLink own idx Lib.MathLoose.abs_long.x ∈ BG ∧ Cond.static Lib.MathLoose.abs_long.x ∈ BG ∧ Cond.initialized "java/lang/Math" ∈ BG ∧ Cond.code Lib.MathLoose.abs_long.x Lib.MathLoose.abs_long.code 2 (some .long) ∈ BG
def WCpy (own : String) (idx : Nat) : Prop := Cond.methodLink own idx arraycopyName ∈ BG ∧ Cond.native arraycopyName ∈ BG ∧ Cond.static arraycopyName ∈ BG ∧ Cond.initialized "java/lang/System" ∈ BG
theorem Ev.mmax {idx : Nat} {x y : Int} (hd : decode M.2.2.1 pc = .ok (.invokestatic idx, 3)) (hn : pc + 3 = pc') (hw : WMax M.2.1 idx) (hdd : 1 ≤ d) (hst : (st.map fun v => v.category).sum ≤ 8) (hx : I32 x) (hy : I32 y) (k : Ev M d pc' ls (iv (if x < y then y else x) :: st) h Post) : Ev M d pc ls (iv y :: iv x :: st) h Post := by
  subst hn
  intro p l e R s m args below meth c D cy ad A Qc F H locs lsA X
  have hF := F
  obtain ⟨fx, fb, fml, fr, flk, fown, fts, fN, fR, fK, fQ⟩ := F
  refine va_mmax fx fb (fml.trans X.2.2.2.1.symm) fown (fts _ hw.1) (fts _ hw.2.1) (fts _ hw.2.2.1) (fts _ hw.2.2.2) (Nat.le_trans hdd fR.1) (by rw [cv_sum]; have := fR.2; omega) (Nat.le_refl _) (Nat.le_refl _) hd ?_
  have e1 : (if Int32.ofInt x < Int32.ofInt y then Int32.ofInt y else Int32.ofInt x) = Int32.ofInt (if x < y then y else x) := by
    by_cases q : x < y
    · rw [if_pos ((i32lt hx hy).mpr q), if_pos q]
    · rw [if_neg (fun z => q ((i32lt hx hy).mp z)), if_neg q]
  rw [e1]
  exact k p l e R s m args below meth c D cy ad A Qc hF H locs lsA X
theorem Ev.mmin {idx : Nat} {x y : Int} (hd : decode M.2.2.1 pc = .ok (.invokestatic idx, 3)) (hn : pc + 3 = pc') (hw : WMin M.2.1 idx) (hdd : 1 ≤ d) (hst : (st.map fun v => v.category).sum ≤ 8) (hx : I32 x) (hy : I32 y) (k : Ev M d pc' ls (iv (if y < x then y else x) :: st) h Post) : Ev M d pc ls (iv y :: iv x :: st) h Post := by
  subst hn
  intro p l e R s m args below meth c D cy ad A Qc F H locs lsA X
  have hF := F
  obtain ⟨fx, fb, fml, fr, flk, fown, fts, fN, fR, fK, fQ⟩ := F
  refine va_mmin fx fb (fml.trans X.2.2.2.1.symm) fown (fts _ hw.1) (fts _ hw.2.1) (fts _ hw.2.2.1) (fts _ hw.2.2.2) (Nat.le_trans hdd fR.1) (by rw [cv_sum]; have := fR.2; omega) (Nat.le_refl _) (Nat.le_refl _) hd ?_
  have e1 : (if Int32.ofInt y < Int32.ofInt x then Int32.ofInt y else Int32.ofInt x) = Int32.ofInt (if y < x then y else x) := by
    by_cases q : y < x
    · rw [if_pos ((i32lt hy hx).mpr q), if_pos q]
    · rw [if_neg (fun z => q ((i32lt hy hx).mp z)), if_neg q]
  rw [e1]
  exact k p l e R s m args below meth c D cy ad A Qc hF H locs lsA X
theorem Ev.mabs {idx : Nat} {x : Int} (hd : decode M.2.2.1 pc = .ok (.invokestatic idx, 3)) (hn : pc + 3 = pc') (hw : WAbs M.2.1 idx) (hdd : 1 ≤ d) (hst : (st.map fun v => v.category).sum ≤ 8) (hx : I32 x) (k : Ev M d pc' ls (iv (if 0 ≤ x then x else -x) :: st) h Post) : Ev M d pc ls (iv x :: st) h Post := by
  subst hn
  intro p l e R s m args below meth c D cy ad A Qc F H locs lsA X
  have hF := F
  obtain ⟨fx, fb, fml, fr, flk, fown, fts, fN, fR, fK, fQ⟩ := F
  refine va_mabs fx fb (fml.trans X.2.2.2.1.symm) fown (fts _ hw.1) (fts _ hw.2.1) (fts _ hw.2.2.1) (fts _ hw.2.2.2) (Nat.le_trans hdd fR.1) (by rw [cv_sum]; have := fR.2; omega) (Nat.le_refl _) (Nat.le_refl _) hd ?_
  have e1 : (if 0 ≤ Int32.ofInt x then Int32.ofInt x else 0 - Int32.ofInt x) = Int32.ofInt (if 0 ≤ x then x else -x) := by
    by_cases q : 0 ≤ x
    · rw [if_pos (show (0 : Int32) ≤ Int32.ofInt x from (i32le i32z hx).mpr q), if_pos q]
    · rw [if_neg (show ¬ (0 : Int32) ≤ Int32.ofInt x from fun z => q ((i32le i32z hx).mp z)), if_neg q, Int32.ofInt_neg, Int32.zero_sub]
  rw [e1]
  exact k p l e R s m args below meth c D cy ad A Qc hF H locs lsA X
theorem Ev.mmaxL {idx : Nat} {x y : Int} (hd : decode M.2.2.1 pc = .ok (.invokestatic idx, 3)) (hn : pc + 3 = pc') (hw : WMaxL M.2.1 idx) (hdd : 1 ≤ d) (hst : (st.map fun v => v.category).sum ≤ 8) (hx : I64 x) (hy : I64 y) (k : Ev M d pc' ls (jv (if y < x then x else y) :: st) h Post) : Ev M d pc ls (jv y :: jv x :: st) h Post := by
  subst hn
  intro p l e R s m args below meth c D cy ad A Qc F H locs lsA X
  have hF := F
  obtain ⟨fx, fb, fml, fr, flk, fown, fts, fN, fR, fK, fQ⟩ := F
  refine va_mmax_long fx fb (fml.trans X.2.2.2.1.symm) fown (fts _ hw.1) (fts _ hw.2.1) (fts _ hw.2.2.1) (fts _ hw.2.2.2) (Nat.le_trans hdd fR.1) (by rw [cv_sum]; have := fR.2; omega) (Nat.le_refl _) (Nat.le_refl _) hd ?_
  have e1 : (if Int64.ofInt y < Int64.ofInt x then Int64.ofInt x else Int64.ofInt y) = Int64.ofInt (if y < x then x else y) := by
    by_cases q : y < x
    · rw [if_pos ((i64lt hy hx).mpr q), if_pos q]
    · rw [if_neg (fun z => q ((i64lt hy hx).mp z)), if_neg q]
  rw [e1]
  exact k p l e R s m args below meth c D cy ad A Qc hF H locs lsA X
theorem i64z : I64 0 := ⟨by decide, by decide⟩
theorem Ev.mabsL {idx : Nat} {x : Int} (hd : decode M.2.2.1 pc = .ok (.invokestatic idx, 3)) (hn : pc + 3 = pc') (hw : WAbsL M.2.1 idx) (hdd : 1 ≤ d) (hst : (st.map fun v => v.category).sum ≤ 8) (hx : I64 x) (k : Ev M d pc' ls (jv (if 0 < x then x else -x) :: st) h Post) : Ev M d pc ls (jv x :: st) h Post := by
  subst hn
  intro p l e R s m args below meth c D cy ad A Qc F H locs lsA X
  have hF := F
  obtain ⟨fx, fb, fml, fr, flk, fown, fts, fN, fR, fK, fQ⟩ := F
  refine va_mabs_long fx fb (fml.trans X.2.2.2.1.symm) fown (fts _ hw.1) (fts _ hw.2.1) (fts _ hw.2.2.1) (fts _ hw.2.2.2) (Nat.le_trans hdd fR.1) (by rw [cv_sum]; have := fR.2; omega) (Nat.le_refl _) (Nat.le_refl _) hd ?_
  have e1 : (if 0 < Int64.ofInt x then Int64.ofInt x else -Int64.ofInt x) = Int64.ofInt (if 0 < x then x else -x) := by
    by_cases q : 0 < x
    · rw [if_pos (show (0 : Int64) < Int64.ofInt x from (i64lt i64z hx).mpr q), if_pos q]
    · rw [if_neg (show ¬ (0 : Int64) < Int64.ofInt x from fun z => q ((i64lt i64z hx).mp z)), if_neg q, Int64.ofInt_neg]
  rw [e1]
  exact k p l e R s m args below meth c D cy ad A Qc hF H locs lsA X
/-- a copy of the first n ints of an array into another -/
def hC (h : Hp) (src dst n : Nat) : Hp := (fun i j => if i = dst ∧ j < n then h.1 src j else h.1 i j, h.2)
theorem lce_oC {tys : List FieldType} {cy : Nat → ClassId} {ad : Nat → Nat} {h : Hp} {src dst n : Nat} (j : Nat) (d : LD) (hj : j ≠ dst) : lce tys cy ad (hC h src dst n) j d = lce tys cy ad h j d := by
  have e : (hC h src dst n).1 j = h.1 j := by funext q; simp [hC, hj]
  cases d with
  | inl o =>
    simp only [lce]
    congr 3
    funext q kd
    match kd with
    | 0 => simp only [fvl, e]
    | 1 => rfl
    | n + 2 => rfl
  | inr a =>
    simp only [lce]
    congr 3
    unfold acn
    split <;> first | rfl | simp only [e]
theorem Ev.cpy {idx src dst t n0 n1 n : Nat} (hd : decode M.2.2.1 pc = .ok (.invokestatic idx, 3)) (hn : pc + 3 = pc') (hw : WCpy M.2.1 idx) (hdd : 1 ≤ d) (hst : (st.map fun v => v.category).sum ≤ 8) (hy0 : M.1.2[src]? = some (.inr (t, n0))) (hy1 : M.1.2[dst]? = some (.inr (t, n1))) (ht : M.1.1[t]? = some .int) (h0 : n ≤ n0) (h1 : n ≤ n1) (hb : n < 2147483648) (k : Ev M d pc' ls st (hC h src dst n) Post) : Ev M d pc ls (iv (n : Int) :: iv 0 :: .ref dst :: iv 0 :: .ref src :: st) h Post := by
  subst hn
  intro p l e R s m args below meth c D cy ad A Qc F H locs lsA X
  have hF := F
  obtain ⟨fx, fb, fml, fr, flk, fown, fts, fN, fR, fK, fQ⟩ := F
  have z0 : ¬ Int32.ofInt 0 < 0 := by decide
  have c0 : (Int32.ofInt 0).toNatClampNeg = 0 := by decide
  have cn : (Int32.ofInt (n : Int)).toNatClampNeg = n := by rw [i32cl (by omega) (by omega)]; omega
  have zn : ¬ Int32.ofInt (n : Int) < 0 := fun q => by
    have := (i32lt ⟨by omega, by omega⟩ i32z).mp q
    omega
  refine va_copyi fx fb (fml.trans X.2.2.2.1.symm) fown (fts _ hw.1) (fts _ hw.2.1) (fts _ hw.2.2.1) (fts _ hw.2.2.2) fK X.1 X.2.1 X.2.2.1 src dst t t (lw_arrI hy0 ht rfl) (lw_arrI hy1 ht rfl) (kty_get ht) (kty_get ht) rfl z0 z0 zn (by rw [c0, cn]; omega) (by rw [c0, cn]; omega) (fun _ _ => rfl) (Nat.le_trans hdd fR.1) (by rw [cv_sum]; have := fR.2; show _ + (7 + 11) ≤ _; omega) hd (fun H1 locs1 hP hD hS => ?_)
  rw [c0, cn] at hP hD
  have hE : (lws M.1 cy ad h).set dst (ad dst, .inl (cy t, n1, .inl (va_cpy (fun k => Int32.ofInt (h.1 src k)) (fun k => Int32.ofInt (h.1 dst k)) 0 0 n))) = lws M.1 cy ad (hC h src dst n) := by
    refine lws_set hy1 ?_ lce_oC
    simp only [lce, ht, acn]
    congr 4
    funext j
    unfold va_cpy hC
    simp only [Nat.zero_le, true_and, Nat.zero_add, Nat.sub_zero]
    split <;> rfl
  rw [hE] at hP hD
  exact k p l e R s m args below meth c D cy ad A Qc hF H1 locs1 lsA ⟨hP, hD, hS, X.2.2.2⟩
end EVMA
