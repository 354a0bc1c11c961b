/-! Fields, arrays, calls. -/
def FG (own : String) (idx ci k : Nat) : Prop := ∃ (C : String) (T : u_T) (N : Nat), vwCl[ci]? = some (C, T, N) ∧ k < N ∧ (∀ w ∈ u_ws C T N, w ∈ BG) ∧ Cond.fieldLink own idx (T k).1 (T k).2.1 (T k).2.2.1 ∈ BG
def FP (own : String) (idx ci k : Nat) (ty : FieldType) : Prop := ∃ (C : String) (T : u_T) (N : Nat) (ty0 : Nat → FieldType), vwCl[ci]? = some (C, T, N) ∧ k < N ∧ (∀ w ∈ u_ws C T N, w ∈ BG) ∧ Cond.fieldLink own idx (T k).1 (T k).2.1 (T k).2.2.1 ∈ BG ∧ (∀ k, k < N → parseFieldDescriptor (T k).2.2.1 = some (ty0 k)) ∧ (∀ a, a < N → ∀ b, b < N → a ≠ b → (T a).2.1 ≠ (T b).2.1) ∧ (T k).2.2.2 = false ∧ parseFieldDescriptor (T k).2.2.1 = some ty
section EVH
variable {M : Mi} {d pc pc' : Nat} {ls : List (Option Value)} {st : List Value} {h : Hp} {Post : Pst}
theorem fl_get {ad : Nat → Nat} {h : Hp} {id k kd : Nat} {ks : List Nat} (hk : ks[k]? = some kd) : (ks.mapIdx (fun k kd => fvl ad h id k kd))[k]? = some (fvl ad h id k kd) := by
  rw [List.getElem?_mapIdx, hk]
  rfl
theorem Ev.getI {idx ci id k : Nat} {ks : List Nat} (hd : decode M.2.2.1 pc = .ok (.getfield idx, 3)) (hn : pc + 3 = pc') (hf : FG M.2.1 idx ci k) (hy : M.1.2[id]? = some (.inl (ci, ks))) (hk : ks[k]? = some 0) (kk : Ev M d pc' ls (iv (h.1 id k) :: st) h Post) : Ev M d pc ls (.ref id :: st) h Post := by
  subst hn
  intro p l e R s m args below meth c D cy ad A Qc F H locs lsA X
  obtain ⟨C, T, N, h1, h2, h3, h4⟩ := hf
  have hF := F
  obtain ⟨fx, fb, fml, fr, flk, fown, fts, fN, fR, fK, fQ⟩ := F
  refine va_get fx fb fts h3 fown fK X.1 id (lws_get hy) h1 k h2 (fts _ h4) (fun _ q => q) (fl_get hk) hd ?_
  exact kk p l e R s m args below meth c D cy ad A Qc hF H locs lsA X
theorem Ev.getL {idx ci id k : Nat} {ks : List Nat} (hd : decode M.2.2.1 pc = .ok (.getfield idx, 3)) (hn : pc + 3 = pc') (hf : FG M.2.1 idx ci k) (hy : M.1.2[id]? = some (.inl (ci, ks))) (hk : ks[k]? = some 1) (kk : Ev M d pc' ls (jv (h.2.1 id k) :: st) h Post) : Ev M d pc ls (.ref id :: st) h Post := by
  subst hn
  intro p l e R s m args below meth c D cy ad A Qc F H locs lsA X
  obtain ⟨C, T, N, h1, h2, h3, h4⟩ := hf
  have hF := F
  obtain ⟨fx, fb, fml, fr, flk, fown, fts, fN, fR, fK, fQ⟩ := F
  refine va_get fx fb fts h3 fown fK X.1 id (lws_get hy) h1 k h2 (fts _ h4) (fun _ q => q) (fl_get hk) hd ?_
  exact kk p l e R s m args below meth c D cy ad A Qc hF H locs lsA X
theorem Ev.getR {idx ci id k r : Nat} {ks : List Nat} (hd : decode M.2.2.1 pc = .ok (.getfield idx, 3)) (hn : pc + 3 = pc') (hf : FG M.2.1 idx ci k) (hy : M.1.2[id]? = some (.inl (ci, ks))) (hk : ks[k]? = some 2) (hr : h.2.2 id k = r) (kk : Ev M d pc' ls (.ref r :: st) h Post) : Ev M d pc ls (.ref id :: st) h Post := by
  subst hn
  subst hr
  intro p l e R s m args below meth c D cy ad A Qc F H locs lsA X
  obtain ⟨C, T, N, h1, h2, h3, h4⟩ := hf
  have hF := F
  obtain ⟨fx, fb, fml, fr, flk, fown, fts, fN, fR, fK, fQ⟩ := F
  refine va_get fx fb fts h3 fown fK X.1 id (lws_get hy) h1 k h2 (fts _ h4) (fun _ q => q) (fl_get hk) hd ?_
  exact kk p l e R s m args below meth c D cy ad A Qc hF H locs lsA X
theorem Ev.putI {idx ci id k : Nat} {ks : List Nat} {x : Int} {ty : FieldType} (hd : decode M.2.2.1 pc = .ok (.putfield idx, 3)) (hn : pc + 3 = pc') (hf : FP M.2.1 idx ci k ty) (hy : M.1.2[id]? = some (.inl (ci, ks))) (hk : ks[k]? = some 0) (hty : ty = .int ∨ (ty = .boolean ∧ (x = 0 ∨ x = 1))) (kk : Ev M d pc' ls st (hI h id k x) Post) : Ev M d pc ls (iv x :: .ref id :: st) h Post := by
  subst hn
  intro p l e R s m args below meth c D cy ad A Qc F H locs lsA X
  obtain ⟨C, T, N, ty0, h1, h2, h3, h4, h5, h6, h7, h8⟩ := hf
  have hF := F
  obtain ⟨fx, fb, fml, fr, flk, fown, fts, fN, fR, fK, fQ⟩ := F
  refine va_put (v := iv x) fx fb fts h3 ty0 h5 h6 fown fK X.1 X.2.1 X.2.2.1 id (lws_get hy) h1 k h2 (fts _ h4) (fun _ q => q) h7 h8 ?_ ?_ (by rw [List.length_mapIdx]; exact (List.getElem?_eq_some_iff.mp hk).1) hd (fun H1 locs1 hP hD hS => ?_)
  · rcases hty with rfl | ⟨rfl, rfl | rfl⟩ <;> rfl
  · rcases hty with rfl | ⟨rfl, rfl | rfl⟩ <;> rfl
  · have hE := lws_set (cy := cy) (ad := ad) (h := h) hy (lce_fI (tys := M.1.1) (cy := cy) (ad := ad) (h := h) (id := id) (ci := ci) (x := x) hk) lce_oI
    rw [hE] at hP hD
    exact kk p l e R s m args below meth c D cy ad A Qc hF H1 locs1 lsA ⟨hP, hD, hS, X.2.2.2⟩
theorem Ev.putL {idx ci id k : Nat} {ks : List Nat} {x : Int} (hd : decode M.2.2.1 pc = .ok (.putfield idx, 3)) (hn : pc + 3 = pc') (hf : FP M.2.1 idx ci k .long) (hy : M.1.2[id]? = some (.inl (ci, ks))) (hk : ks[k]? = some 1) (kk : Ev M d pc' ls st (hL h id k x) Post) : Ev M d pc ls (jv x :: .ref id :: st) h Post := by
  subst hn
  intro p l e R s m args below meth c D cy ad A Qc F H locs lsA X
  obtain ⟨C, T, N, ty0, h1, h2, h3, h4, h5, h6, h7, h8⟩ := hf
  have hF := F
  obtain ⟨fx, fb, fml, fr, flk, fown, fts, fN, fR, fK, fQ⟩ := F
  refine va_put (v := jv x) fx fb fts h3 ty0 h5 h6 fown fK X.1 X.2.1 X.2.2.1 id (lws_get hy) h1 k h2 (fts _ h4) (fun _ q => q) h7 h8 rfl rfl (by rw [List.length_mapIdx]; exact (List.getElem?_eq_some_iff.mp hk).1) hd (fun H1 locs1 hP hD hS => ?_)
  have hE := lws_set (cy := cy) (ad := ad) (h := h) hy (lce_fL (tys := M.1.1) (cy := cy) (ad := ad) (h := h) (id := id) (ci := ci) (x := x) hk) lce_oL
  rw [hE] at hP hD
  exact kk p l e R s m args below meth c D cy ad A Qc hF H1 locs1 lsA ⟨hP, hD, hS, X.2.2.2⟩
theorem Ev.putR {idx ci id k x : Nat} {ks : List Nat} {ty : FieldType} (hd : decode M.2.2.1 pc = .ok (.putfield idx, 3)) (hn : pc + 3 = pc') (hf : FP M.2.1 idx ci k ty) (hy : M.1.2[id]? = some (.inl (ci, ks))) (hk : ks[k]? = some 2) (hty : ∃ n, ty = .object n) (kk : Ev M d pc' ls st (hR h id k x) Post) : Ev M d pc ls (.ref x :: .ref id :: st) h Post := by
  subst hn
  intro p l e R s m args below meth c D cy ad A Qc F H locs lsA X
  obtain ⟨C, T, N, ty0, h1, h2, h3, h4, h5, h6, h7, h8⟩ := hf
  obtain ⟨n, rfl⟩ := hty
  have hF := F
  obtain ⟨fx, fb, fml, fr, flk, fown, fts, fN, fR, fK, fQ⟩ := F
  refine va_put (v := .ref (ad x)) fx fb fts h3 ty0 h5 h6 fown fK X.1 X.2.1 X.2.2.1 id (lws_get hy) h1 k h2 (fts _ h4) (fun _ q => q) h7 h8 rfl rfl (by rw [List.length_mapIdx]; exact (List.getElem?_eq_some_iff.mp hk).1) hd (fun H1 locs1 hP hD hS => ?_)
  have hE := lws_set (cy := cy) (ad := ad) (h := h) hy (lce_fR (tys := M.1.1) (cy := cy) (ad := ad) (h := h) (id := id) (ci := ci) (x := x) hk) lce_oR
  rw [hE] at hP hD
  exact kk p l e R s m args below meth c D cy ad A Qc hF H1 locs1 lsA ⟨hP, hD, hS, X.2.2.2⟩
-- arrays of ints, chars, bytes, booleans
theorem lw_arrI {Ly : Lay} {cy : Nat → ClassId} {ad : Nat → Nat} {h : Hp} {id t n : Nat} {ty : FieldType} (hL : Ly.2[id]? = some (.inr (t, n))) (ht : Ly.1[t]? = some ty) (hk : acn ad h id (some ty) = .inl (fun k => Int32.ofInt (h.1 id k))) : (lws Ly cy ad h)[id]? = some (ad id, .inl (cy t, n, .inl (fun k => Int32.ofInt (h.1 id k)))) := by
  rw [lws_get hL]
  simp only [lce, ht, hk]
theorem lce_aI {tys : List FieldType} {cy : Nat → ClassId} {ad : Nat → Nat} {h : Hp} {id t n k : Nat} {x : Int} {ty : FieldType} {g : Nat → Int32} (ht : tys[t]? = some ty) (hk : ∀ h' : Hp, acn ad h' id (some ty) = .inl (fun k => Int32.ofInt (h'.1 id k))) (hg : ∀ j, g j = Int32.ofInt (if j = k then x else h.1 id j)) : (Sum.inl (cy t, n, Sum.inl g) : va_E) = lce tys cy ad (hI h id k x) id (.inr (t, n)) := by
  simp only [lce, ht, hk]
  congr 4
  funext j
  rw [hg j]
  simp [hI]
theorem Ev.iaload {id t q n : Nat} {i : Int} (hd : decode M.2.2.1 pc = .ok (.iaload, 1)) (hn : pc + 1 = pc') (hy : M.1.2[id]? = some (.inr (t, n))) (ht : M.1.1[t]? = some .int) (hi : 0 ≤ i ∧ i < n) (hb : n < 2147483648) (hq : i.toNat = q) (kk : Ev M d pc' ls (iv (h.1 id q) :: st) h Post) : Ev M d pc ls (iv i :: .ref id :: st) h Post := by
  subst hn
  subst hq
  intro p l e R s m args below meth c D cy ad A Qc F H locs lsA X
  refine va_iald F.1 F.2.1 F.2.2.2.2.2.2.2.2.2.1 X.1 id t (lw_arrI hy ht rfl) (kty_get ht) (i32in hi.1 hi.2 hb) hd ?_
  rw [i32cl hi.1 (by omega)]
  exact kk p l e R s m args below meth c D cy ad A Qc F H locs lsA X
theorem Ev.caload {id t q n : Nat} {i : Int} (hd : decode M.2.2.1 pc = .ok (.caload, 1)) (hn : pc + 1 = pc') (hy : M.1.2[id]? = some (.inr (t, n))) (ht : M.1.1[t]? = some .char) (hi : 0 ≤ i ∧ i < n) (hb : n < 2147483648) (hq : i.toNat = q) (kk : Ev M d pc' ls (iv (h.1 id q) :: st) h Post) : Ev M d pc ls (iv i :: .ref id :: st) h Post := by
  subst hn
  subst hq
  intro p l e R s m args below meth c D cy ad A Qc F H locs lsA X
  refine va_cald F.1 F.2.1 F.2.2.2.2.2.2.2.2.2.1 X.1 id t (lw_arrI hy ht rfl) (kty_get ht) (i32in hi.1 hi.2 hb) hd ?_
  rw [i32cl hi.1 (by omega)]
  exact kk p l e R s m args below meth c D cy ad A Qc F H locs lsA X
theorem Ev.baload {id t q n : Nat} {i : Int} (hd : decode M.2.2.1 pc = .ok (.baload, 1)) (hn : pc + 1 = pc') (hy : M.1.2[id]? = some (.inr (t, n))) (ht : M.1.1[t]? = some .byte) (hi : 0 ≤ i ∧ i < n) (hb : n < 2147483648) (hq : i.toNat = q) (kk : Ev M d pc' ls (iv (h.1 id q) :: st) h Post) : Ev M d pc ls (iv i :: .ref id :: st) h Post := by
  subst hn
  subst hq
  intro p l e R s m args below meth c D cy ad A Qc F H locs lsA X
  refine va_bald F.1 F.2.1 F.2.2.2.2.2.2.2.2.2.1 X.1 id t (lw_arrI hy ht rfl) (kty_get ht) (i32in hi.1 hi.2 hb) hd ?_
  rw [i32cl hi.1 (by omega)]
  exact kk p l e R s m args below meth c D cy ad A Qc F H locs lsA X
theorem Ev.zaload {id t q n : Nat} {i : Int} (hd : decode M.2.2.1 pc = .ok (.baload, 1)) (hn : pc + 1 = pc') (hy : M.1.2[id]? = some (.inr (t, n))) (ht : M.1.1[t]? = some .boolean) (hi : 0 ≤ i ∧ i < n) (hb : n < 2147483648) (hq : i.toNat = q) (kk : Ev M d pc' ls (iv (h.1 id q) :: st) h Post) : Ev M d pc ls (iv i :: .ref id :: st) h Post := by
  subst hn
  subst hq
  intro p l e R s m args below meth c D cy ad A Qc F H locs lsA X
  refine va_zald F.1 F.2.1 F.2.2.2.2.2.2.2.2.2.1 X.1 id t (lw_arrI hy ht rfl) (kty_get ht) (i32in hi.1 hi.2 hb) hd ?_
  rw [i32cl hi.1 (by omega)]
  exact kk p l e R s m args below meth c D cy ad A Qc F H locs lsA X
theorem Ev.iastore {id t q n : Nat} {i x : Int} (hd : decode M.2.2.1 pc = .ok (.iastore, 1)) (hn : pc + 1 = pc') (hy : M.1.2[id]? = some (.inr (t, n))) (ht : M.1.1[t]? = some .int) (hi : 0 ≤ i ∧ i < n) (hb : n < 2147483648)  (hq : i.toNat = q) (kk : Ev M d pc' ls st (hI h id q x) Post) : Ev M d pc ls (iv x :: iv i :: .ref id :: st) h Post := by
  subst hn
  subst hq
  intro p l e R s m args below meth c D cy ad A Qc F H locs lsA X
  refine va_iast F.1 F.2.1 F.2.2.2.2.2.2.2.2.2.1 X.1 X.2.1 X.2.2.1 id t (lw_arrI hy ht rfl) (kty_get ht) (i32in hi.1 hi.2 hb) hd (fun H1 locs1 hP hD hS => ?_)
  rw [i32cl hi.1 (by omega)] at hP hD
  have hE := lws_set (cy := cy) (ad := ad) (h := h) hy (lce_aI (n := n) (x := x) (k := i.toNat) (h := h) (g := upd (fun k => Int32.ofInt (h.1 id k)) i.toNat (Int32.ofInt x)) ht (fun _ => rfl) (fun j => by
    unfold upd; split <;> rfl)) lce_oI
  rw [hE] at hP hD
  exact kk p l e R s m args below meth c D cy ad A Qc F H1 locs1 lsA ⟨hP, hD, hS, X.2.2.2⟩
theorem Ev.castore {id t q n : Nat} {i x : Int} (hd : decode M.2.2.1 pc = .ok (.castore, 1)) (hn : pc + 1 = pc') (hy : M.1.2[id]? = some (.inr (t, n))) (ht : M.1.1[t]? = some .char) (hi : 0 ≤ i ∧ i < n) (hb : n < 2147483648) (hx : 0 ≤ x ∧ x < 65536) (hq : i.toNat = q) (kk : Ev M d pc' ls st (hI h id q x) Post) : Ev M d pc ls (iv x :: iv i :: .ref id :: st) h Post := by
  subst hn
  subst hq
  intro p l e R s m args below meth c D cy ad A Qc F H locs lsA X
  refine va_cast F.1 F.2.1 F.2.2.2.2.2.2.2.2.2.1 X.1 X.2.1 X.2.2.1 id t (lw_arrI hy ht rfl) (kty_get ht) (i32in hi.1 hi.2 hb) hd (fun H1 locs1 hP hD hS => ?_)
  rw [i32cl hi.1 (by omega)] at hP hD
  have hE := lws_set (cy := cy) (ad := ad) (h := h) hy (lce_aI (n := n) (x := x) (k := i.toNat) (h := h) (g := upd (fun k => Int32.ofInt (h.1 id k)) i.toNat (vp_nar .char (Int32.ofInt x))) ht (fun _ => rfl) (fun j => by
    unfold upd; split <;> first | exact (vp_nar_char _).trans (narC hx) | rfl)) lce_oI
  rw [hE] at hP hD
  exact kk p l e R s m args below meth c D cy ad A Qc F H1 locs1 lsA ⟨hP, hD, hS, X.2.2.2⟩
theorem Ev.bastore {id t q n : Nat} {i x : Int} (hd : decode M.2.2.1 pc = .ok (.bastore, 1)) (hn : pc + 1 = pc') (hy : M.1.2[id]? = some (.inr (t, n))) (ht : M.1.1[t]? = some .byte) (hi : 0 ≤ i ∧ i < n) (hb : n < 2147483648) (hx : -128 ≤ x ∧ x ≤ 127) (hq : i.toNat = q) (kk : Ev M d pc' ls st (hI h id q x) Post) : Ev M d pc ls (iv x :: iv i :: .ref id :: st) h Post := by
  subst hn
  subst hq
  intro p l e R s m args below meth c D cy ad A Qc F H locs lsA X
  refine va_bast F.1 F.2.1 F.2.2.2.2.2.2.2.2.2.1 X.1 X.2.1 X.2.2.1 id t (lw_arrI hy ht rfl) (kty_get ht) (i32in hi.1 hi.2 hb) hd (fun H1 locs1 hP hD hS => ?_)
  rw [i32cl hi.1 (by omega)] at hP hD
  have hE := lws_set (cy := cy) (ad := ad) (h := h) hy (lce_aI (n := n) (x := x) (k := i.toNat) (h := h) (g := upd (fun k => Int32.ofInt (h.1 id k)) i.toNat (vp_nar .byte (Int32.ofInt x))) ht (fun _ => rfl) (fun j => by
    unfold upd; split <;> first | exact (vp_nar_byte _).trans (i2bE hx) | rfl)) lce_oI
  rw [hE] at hP hD
  exact kk p l e R s m args below meth c D cy ad A Qc F H1 locs1 lsA ⟨hP, hD, hS, X.2.2.2⟩
theorem Ev.zastore {id t q n : Nat} {i x : Int} (hd : decode M.2.2.1 pc = .ok (.bastore, 1)) (hn : pc + 1 = pc') (hy : M.1.2[id]? = some (.inr (t, n))) (ht : M.1.1[t]? = some .boolean) (hi : 0 ≤ i ∧ i < n) (hb : n < 2147483648) (hx : x = 0 ∨ x = 1) (hq : i.toNat = q) (kk : Ev M d pc' ls st (hI h id q x) Post) : Ev M d pc ls (iv x :: iv i :: .ref id :: st) h Post := by
  subst hn
  subst hq
  intro p l e R s m args below meth c D cy ad A Qc F H locs lsA X
  refine va_zast F.1 F.2.1 F.2.2.2.2.2.2.2.2.2.1 X.1 X.2.1 X.2.2.1 id t (lw_arrI hy ht rfl) (kty_get ht) (i32in hi.1 hi.2 hb) hd (fun H1 locs1 hP hD hS => ?_)
  rw [i32cl hi.1 (by omega)] at hP hD
  have hE := lws_set (cy := cy) (ad := ad) (h := h) hy (lce_aI (n := n) (x := x) (k := i.toNat) (h := h) (g := upd (fun k => Int32.ofInt (h.1 id k)) i.toNat (vp_nar .boolean (Int32.ofInt x))) ht (fun _ => rfl) (fun j => by
    unfold upd; split <;> first | (rcases hx with rfl | rfl <;> rfl) | rfl)) lce_oI
  rw [hE] at hP hD
  exact kk p l e R s m args below meth c D cy ad A Qc F H1 locs1 lsA ⟨hP, hD, hS, X.2.2.2⟩
-- arrays of longs
theorem lw_arrL {Ly : Lay} {cy : Nat → ClassId} {ad : Nat → Nat} {h : Hp} {id t n : Nat} (hL : Ly.2[id]? = some (.inr (t, n))) (ht : Ly.1[t]? = some .long) : (lws Ly cy ad h)[id]? = some (ad id, .inl (cy t, n, .inr (.inl (fun k => Int64.ofInt (h.2.1 id k))))) := by
  rw [lws_get hL]
  simp only [lce, ht, acn]
theorem lce_aL {tys : List FieldType} {cy : Nat → ClassId} {ad : Nat → Nat} {h : Hp} {id t n k : Nat} {x : Int} {g : Nat → Int64} (ht : tys[t]? = some .long) (hg : ∀ j, g j = Int64.ofInt (if j = k then x else h.2.1 id j)) : (Sum.inl (cy t, n, Sum.inr (Sum.inl g)) : va_E) = lce tys cy ad (hL h id k x) id (.inr (t, n)) := by
  simp only [lce, ht, acn]
  congr 5
  funext j
  rw [hg j]
  simp [hL]
theorem Ev.laload {id t q n : Nat} {i : Int} (hd : decode M.2.2.1 pc = .ok (.laload, 1)) (hn : pc + 1 = pc') (hy : M.1.2[id]? = some (.inr (t, n))) (ht : M.1.1[t]? = some .long) (hi : 0 ≤ i ∧ i < n) (hb : n < 2147483648) (hq : i.toNat = q) (kk : Ev M d pc' ls (jv (h.2.1 id q) :: st) h Post) : Ev M d pc ls (iv i :: .ref id :: st) h Post := by
  subst hn
  subst hq
  intro p l e R s m args below meth c D cy ad A Qc F H locs lsA X
  refine va_lald F.1 F.2.1 F.2.2.2.2.2.2.2.2.2.1 X.1 id t (lw_arrL hy ht) (kty_get ht) (i32in hi.1 hi.2 hb) hd ?_
  rw [i32cl hi.1 (by omega)]
  exact kk p l e R s m args below meth c D cy ad A Qc F H locs lsA X
theorem Ev.lastore {id t q n : Nat} {i x : Int} (hd : decode M.2.2.1 pc = .ok (.lastore, 1)) (hn : pc + 1 = pc') (hy : M.1.2[id]? = some (.inr (t, n))) (ht : M.1.1[t]? = some .long) (hi : 0 ≤ i ∧ i < n) (hb : n < 2147483648) (hq : i.toNat = q) (kk : Ev M d pc' ls st (hL h id q x) Post) : Ev M d pc ls (jv x :: iv i :: .ref id :: st) h Post := by
  subst hn
  subst hq
  intro p l e R s m args below meth c D cy ad A Qc F H locs lsA X
  refine va_last F.1 F.2.1 F.2.2.2.2.2.2.2.2.2.1 X.1 X.2.1 X.2.2.1 id t (lw_arrL hy ht) (kty_get ht) (i32in hi.1 hi.2 hb) hd (fun H1 locs1 hP hD hS => ?_)
  rw [i32cl hi.1 (by omega)] at hP hD
  have hE := lws_set (cy := cy) (ad := ad) (h := h) hy (lce_aL (n := n) (x := x) (k := i.toNat) (h := h) (g := vp_updL (fun k => Int64.ofInt (h.2.1 id k)) i.toNat (Int64.ofInt x)) ht (fun j => by
    unfold vp_updL; split <;> rfl)) lce_oL
  rw [hE] at hP hD
  exact kk p l e R s m args below meth c D cy ad A Qc F H1 locs1 lsA ⟨hP, hD, hS, X.2.2.2⟩
-- arrays of references
theorem Ev.aaload {id t q n r : Nat} {i : Int} {ty : FieldType} (hd : decode M.2.2.1 pc = .ok (.aaload, 1)) (hn : pc + 1 = pc') (hy : M.1.2[id]? = some (.inr (t, n))) (ht : M.1.1[t]? = some ty) (hty : (∃ z, ty = .object z) ∨ ∃ z, ty = .array z) (hi : 0 ≤ i ∧ i < n) (hb : n < 2147483648) (hq : i.toNat = q) (hr : h.2.2 id q = r) (kk : Ev M d pc' ls (.ref r :: st) h Post) : Ev M d pc ls (iv i :: .ref id :: st) h Post := by
  subst hn
  subst hq
  subst hr
  intro p l e R s m args below meth c D cy ad A Qc F H locs lsA X
  have hw : (lws M.1 cy ad h)[id]? = some (ad id, .inl (cy t, n, .inr (.inr (.inr (.inr (fun k => some (ad (h.2.2 id k)))))))) := by
    rw [lws_get hy]
    rcases hty with ⟨z, rfl⟩ | ⟨z, rfl⟩ <;> simp only [lce, ht, acn]
  have hin := i32in hi.1 hi.2 hb
  have hlt : (Int32.ofInt i).toNatClampNeg < n := Nat.not_le.mp fun q => hin (Or.inr q)
  refine W.aald (v := va_rf ((fun k => some (ad (h.2.2 id k))) (Int32.ofInt i).toNatClampNeg)) (ty := ty) F.1 F.2.1 (X.1 id _ hw) ((F.2.2.2.2.2.2.2.2.2.1.2 t _ (kty_get ht)).1 n (fun j => va_rf (some (ad (h.2.2 id j))))) (by rcases hty with ⟨z, rfl⟩ | ⟨z, rfl⟩ <;> rfl) (fun q => by cases q) (by show ¬ (Int32.ofInt i < 0 ∨ (arrV _ _ _).slots.size ≤ _); rw [arrV_size]; exact hin) (by show (arrV _ _ _).slots[_]? = _; rw [arrV_read _ _ hlt]) rfl rfl hd ?_
  rw [i32cl hi.1 (by omega)]
  exact kk p l e R s m args below meth c D cy ad A Qc F H locs lsA X
end EVH
