/-! The region: a fixed row of cells (no cell comes or goes), its contents as mathematical numbers; Ev: what holds of a method's code from a place on. -/
abbrev Hp : Type := (Nat → Nat → Int) × (Nat → Nat → Int) × (Nat → Nat → Nat)
abbrev LD : Type := (Nat × List Nat) ⊕ (Nat × Nat)
abbrev Lay : Type := List FieldType × List LD
def iv (x : Int) : Value := .int (Int32.ofInt x)
def jv (x : Int) : Value := .long (Int64.ofInt x)
def cv (ad : Nat → Nat) : Value → Value
  | .ref a => .ref (ad a)
  | .int x => .int x
  | .long x => .long x
  | v => v
theorem cv_iv (ad : Nat → Nat) (x : Int) : cv ad (iv x) = iv x := rfl
theorem cv_jv (ad : Nat → Nat) (x : Int) : cv ad (jv x) = jv x := rfl
theorem cv_cat (ad : Nat → Nat) (v : Value) : (cv ad v).category = v.category := by cases v <;> rfl
def fvl (ad : Nat → Nat) (h : Hp) (id k : Nat) : Nat → Value
  | 0 => iv (h.1 id k)
  | 1 => jv (h.2.1 id k)
  | _ => .ref (ad (h.2.2 id k))
def acn (ad : Nat → Nat) (h : Hp) (id : Nat) : Option FieldType → ((Nat → Int32) ⊕ (Nat → Int64) ⊕ (Nat → UInt32) ⊕ (Nat → UInt64) ⊕ (Nat → Option Nat))
  | some .long => .inr (.inl (fun k => Int64.ofInt (h.2.1 id k)))
  | some (.object _) => .inr (.inr (.inr (.inr (fun k => some (ad (h.2.2 id k))))))
  | some (.array _) => .inr (.inr (.inr (.inr (fun k => some (ad (h.2.2 id k))))))
  | _ => .inl (fun k => Int32.ofInt (h.1 id k))
def lce (tys : List FieldType) (cy : Nat → ClassId) (ad : Nat → Nat) (h : Hp) (id : Nat) : LD → va_E
  | .inl o => .inr (o.1, o.2.mapIdx (fun k kd => fvl ad h id k kd))
  | .inr a => .inl (cy a.1, a.2, acn ad h id tys[a.1]?)
def lws (Ly : Lay) (cy : Nat → ClassId) (ad : Nat → Nat) (h : Hp) : va_W := Ly.2.mapIdx (fun id d => (ad id, lce Ly.1 cy ad h id d))
def kty (Ly : Lay) (cy : Nat → ClassId) : List (ClassId × FieldType) := Ly.1.mapIdx (fun i ty => (cy i, ty))
def hI (h : Hp) (id k : Nat) (x : Int) : Hp := (fun i j => if i = id ∧ j = k then x else h.1 i j, h.2)
def hL (h : Hp) (id k : Nat) (x : Int) : Hp := (h.1, fun i j => if i = id ∧ j = k then x else h.2.1 i j, h.2.2)
def hR (h : Hp) (id k : Nat) (x : Nat) : Hp := (h.1, h.2.1, fun i j => if i = id ∧ j = k then x else h.2.2 i j)
theorem lws_get {Ly : Lay} {cy : Nat → ClassId} {ad : Nat → Nat} {h : Hp} {id : Nat} {d : LD} (hd : Ly.2[id]? = some d) : (lws Ly cy ad h)[id]? = some (ad id, lce Ly.1 cy ad h id d) := by
  unfold lws
  rw [List.getElem?_mapIdx, hd]
  rfl
theorem kty_get {Ly : Lay} {cy : Nat → ClassId} {i : Nat} {ty : FieldType} (hd : Ly.1[i]? = some ty) : (kty Ly cy)[i]? = some (cy i, ty) := by
  unfold kty
  rw [List.getElem?_mapIdx, hd]
  rfl
theorem lws_len {Ly : Lay} {cy : Nat → ClassId} {ad : Nat → Nat} {h : Hp} : (lws Ly cy ad h).length = Ly.2.length := by
  unfold lws
  rw [List.length_mapIdx]
/-- one cell becomes another -/
theorem lws_set {Ly : Lay} {cy : Nat → ClassId} {ad : Nat → Nat} {h h' : Hp} {id : Nat} {d : LD} {e : va_E} (hd : Ly.2[id]? = some d) (he : e = lce Ly.1 cy ad h' id d) (ho : ∀ j d', j ≠ id → lce Ly.1 cy ad h' j d' = lce Ly.1 cy ad h j d') : (lws Ly cy ad h).set id (ad id, e) = lws Ly cy ad h' := by
  apply List.ext_getElem?
  intro j
  have hl : id < (lws Ly cy ad h).length := by rw [lws_len]; exact (List.getElem?_eq_some_iff.mp hd).1
  by_cases hj : j = id
  · subst hj
    rw [List.getElem?_set_self hl, lws_get hd, he]
  · rw [List.getElem?_set_ne (Ne.symm hj)]
    unfold lws
    rw [List.getElem?_mapIdx, List.getElem?_mapIdx]
    cases Ly.2[j]? with
    | none => rfl
    | some d' => simp only [Option.map_some]; rw [ho j d' hj]
theorem lce_oI {tys : List FieldType} {cy : Nat → ClassId} {ad : Nat → Nat} {h : Hp} {id k : Nat} {x : Int} (j : Nat) (d : LD) (hj : j ≠ id) : lce tys cy ad (hI h id k x) j d = lce tys cy ad h j d := by
  have e : (hI h id k x).1 j = h.1 j := by funext q; simp [hI, hj]
  cases d with
  | inl o =>
    simp only [lce]
    congr 3
    funext q kd
    match kd with
    | 0 => simp only [fvl, e]
    | 1 => rfl
    | n + 2 => rfl
  | inr a =>
    simp only [lce]
    congr 3
    unfold acn
    split <;> first | rfl | simp only [e]
theorem lce_oL {tys : List FieldType} {cy : Nat → ClassId} {ad : Nat → Nat} {h : Hp} {id k : Nat} {x : Int} (j : Nat) (d : LD) (hj : j ≠ id) : lce tys cy ad (hL h id k x) j d = lce tys cy ad h j d := by
  have e : (hL h id k x).2.1 j = h.2.1 j := by funext q; simp [hL, hj]
  cases d with
  | inl o =>
    simp only [lce]
    congr 3
    funext q kd
    match kd with
    | 0 => rfl
    | 1 => simp only [fvl, e]
    | n + 2 => rfl
  | inr a =>
    simp only [lce]
    congr 3
    unfold acn
    split <;> first | rfl | simp only [e]
theorem lce_oR {tys : List FieldType} {cy : Nat → ClassId} {ad : Nat → Nat} {h : Hp} {id k x : Nat} (j : Nat) (d : LD) (hj : j ≠ id) : lce tys cy ad (hR h id k x) j d = lce tys cy ad h j d := by
  have e : (hR h id k x).2.2 j = h.2.2 j := by funext q; simp [hR, hj]
  cases d with
  | inl o =>
    simp only [lce]
    congr 3
    funext q kd
    match kd with
    | 0 => rfl
    | 1 => rfl
    | n + 2 => simp only [fvl, e]
  | inr a =>
    simp only [lce]
    congr 3
    unfold acn
    split <;> first | rfl | simp only [e]
/-- a field of an object becomes another -/
theorem lce_fI {tys : List FieldType} {cy : Nat → ClassId} {ad : Nat → Nat} {h : Hp} {id k ci : Nat} {ks : List Nat} {x : Int} (hk : ks[k]? = some 0) : (Sum.inr (ci, (ks.mapIdx (fun k kd => fvl ad h id k kd)).set k (iv x)) : va_E) = lce tys cy ad (hI h id k x) id (.inl (ci, ks)) := by
  simp only [lce]
  congr 2
  apply List.ext_getElem?
  intro j
  by_cases hj : j = k
  · subst hj
    rw [List.getElem?_set_self (by rw [List.length_mapIdx]; exact (List.getElem?_eq_some_iff.mp hk).1), List.getElem?_mapIdx, hk]
    simp [fvl, hI]
  · rw [List.getElem?_set_ne (Ne.symm hj), List.getElem?_mapIdx, List.getElem?_mapIdx]
    cases ks[j]? with
    | none => rfl
    | some kd =>
      simp only [Option.map_some]
      congr 1
      match kd with
      | 0 => simp [fvl, hI, hj]
      | 1 => rfl
      | n + 2 => rfl
theorem lce_fL {tys : List FieldType} {cy : Nat → ClassId} {ad : Nat → Nat} {h : Hp} {id k ci : Nat} {ks : List Nat} {x : Int} (hk : ks[k]? = some 1) : (Sum.inr (ci, (ks.mapIdx (fun k kd => fvl ad h id k kd)).set k (jv x)) : va_E) = lce tys cy ad (hL h id k x) id (.inl (ci, ks)) := by
  simp only [lce]
  congr 2
  apply List.ext_getElem?
  intro j
  by_cases hj : j = k
  · subst hj
    rw [List.getElem?_set_self (by rw [List.length_mapIdx]; exact (List.getElem?_eq_some_iff.mp hk).1), List.getElem?_mapIdx, hk]
    simp [fvl, hL]
  · rw [List.getElem?_set_ne (Ne.symm hj), List.getElem?_mapIdx, List.getElem?_mapIdx]
    cases ks[j]? with
    | none => rfl
    | some kd =>
      simp only [Option.map_some]
      congr 1
      match kd with
      | 0 => rfl
      | 1 => simp [fvl, hL, hj]
      | n + 2 => rfl
theorem lce_fR {tys : List FieldType} {cy : Nat → ClassId} {ad : Nat → Nat} {h : Hp} {id k ci : Nat} {ks : List Nat} {x : Nat} (hk : ks[k]? = some 2) : (Sum.inr (ci, (ks.mapIdx (fun k kd => fvl ad h id k kd)).set k (.ref (ad x))) : va_E) = lce tys cy ad (hR h id k x) id (.inl (ci, ks)) := by
  simp only [lce]
  congr 2
  apply List.ext_getElem?
  intro j
  by_cases hj : j = k
  · subst hj
    rw [List.getElem?_set_self (by rw [List.length_mapIdx]; exact (List.getElem?_eq_some_iff.mp hk).1), List.getElem?_mapIdx, hk]
    simp [fvl, hR]
  · rw [List.getElem?_set_ne (Ne.symm hj), List.getElem?_mapIdx, List.getElem?_mapIdx]
    cases ks[j]? with
    | none => rfl
    | some kd =>
      simp only [Option.map_some]
      congr 1
      match kd with
      | 0 => rfl
      | 1 => rfl
      | n + 2 => simp [fvl, hR, hj]
/-- the words that hold all along -/
def BG : List Cond := lw_tbl.filter goodWord
theorem inBG {w : Cond} (i : Nat) (h : lw_tbl[i]? = some w) (hg : goodWord w = true) : w ∈ BG := List.mem_filter.mpr ⟨List.mem_of_getElem? h, hg⟩
theorem goodBG {w : Cond} (h : w ∈ BG) : w ∈ BG ∧ ((w.onTables && w.keeps) = true ∨ ∃ ty, w = .arrayClass ty) := ⟨h, good_of_word (List.mem_filter.mp h).2⟩
theorem gdBG {w : Cond} (h : w ∈ BG) : GoodIn BG (w :: BG) := fun x hx => by
  rcases List.mem_cons.mp hx with rfl | h2
  · exact goodBG h
  · exact goodBG h2
def isW (v lo hi : Int) : Prop := lo ≤ v ∧ v ≤ hi
/-- ints and longs in range -/
def I32 (x : Int) : Prop := -2147483648 ≤ x ∧ x ≤ 2147483647
def I64 (x : Int) : Prop := -9223372036854775808 ≤ x ∧ x ≤ 9223372036854775807
theorem i32T {x : Int} (h : I32 x) : (Int32.ofInt x).toInt = x := Int32.toInt_ofInt_of_le (by have := h.1; omega) (by have := h.2; omega)
theorem i64T {x : Int} (h : I64 x) : (Int64.ofInt x).toInt = x := Int64.toInt_ofInt_of_le (by have := h.1; omega) (by have := h.2; omega)
theorem i32lt {x y : Int} (hx : I32 x) (hy : I32 y) : Int32.ofInt x < Int32.ofInt y ↔ x < y := by rw [Int32.lt_iff_toInt_lt, i32T hx, i32T hy]
theorem i32le {x y : Int} (hx : I32 x) (hy : I32 y) : Int32.ofInt x ≤ Int32.ofInt y ↔ x ≤ y := by rw [Int32.le_iff_toInt_le, i32T hx, i32T hy]
theorem i32eq {x y : Int} (hx : I32 x) (hy : I32 y) : Int32.ofInt x = Int32.ofInt y ↔ x = y := by rw [← Int32.toInt_inj, i32T hx, i32T hy]
theorem i64lt {x y : Int} (hx : I64 x) (hy : I64 y) : Int64.ofInt x < Int64.ofInt y ↔ x < y := by rw [Int64.lt_iff_toInt_lt, i64T hx, i64T hy]
theorem i64le {x y : Int} (hx : I64 x) (hy : I64 y) : Int64.ofInt x ≤ Int64.ofInt y ↔ x ≤ y := by rw [Int64.le_iff_toInt_le, i64T hx, i64T hy]
theorem i64eq {x y : Int} (hx : I64 x) (hy : I64 y) : Int64.ofInt x = Int64.ofInt y ↔ x = y := by rw [← Int64.toInt_inj, i64T hx, i64T hy]
theorem i32_0 : (0 : Int32) = Int32.ofInt 0 := by decide
theorem i32in {x : Int} {n : Nat} (h0 : 0 ≤ x) (h1 : x < n) (hn : n < 2147483648) : vp_in (Int32.ofInt x) n := by
  rw [vp_in_iff, i32T ⟨by omega, by omega⟩]
  exact ⟨h0, h1⟩
theorem i32cl {x : Int} (h0 : 0 ≤ x) (h1 : x ≤ 2147483647) : (Int32.ofInt x).toNatClampNeg = x.toNat := by
  show (Int32.ofInt x).toInt.toNat = x.toNat
  rw [i32T ⟨by omega, h1⟩]
