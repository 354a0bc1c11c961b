/-! Nothing grows past a long. -/
def Ab (B x : Int) : Prop := -B ≤ x ∧ x ≤ B
theorem Ab.mul {a b A B : Int} (ha : Ab A a) (hb : Ab B b) : Ab (A * B) (a * b) := ab_mul ha hb
theorem Ab.add {a b A B : Int} (ha : Ab A a) (hb : Ab B b) : Ab (A + B) (a + b) := by unfold Ab at *; omega
theorem Ab.sub {a b A B : Int} (ha : Ab A a) (hb : Ab B b) : Ab (A + B) (a - b) := by unfold Ab at *; omega
theorem Ab.le {a A B : Int} (ha : Ab A a) (h : A ≤ B) : Ab B a := by unfold Ab at *; omega
section AB
variable {A : Nat → Nat → Int} {x y z w : Nat} {X Y Z W : Int}
theorem D2_ab (hx : ∀ i, i < 2 → Ab X (A i x)) (hy : ∀ i, i < 2 → Ab Y (A i y)) : Ab (X * Y + Y * X) (D2 A x y) :=
  ((hx 0 (by omega)).mul (hy 1 (by omega))).sub ((hy 0 (by omega)).mul (hx 1 (by omega)))
theorem D3_ab (hx : ∀ i, i < 3 → Ab X (A i x)) (hy : ∀ i, i < 3 → Ab Y (A i y)) (hz : ∀ i, i < 3 → Ab Z (A i z)) : Ab (X * (Y * Z + Z * Y) + Y * (X * Z + Z * X) + Z * (X * Y + Y * X)) (D3 A x y z) :=
  (((hx 0 (by omega)).mul (((hy 1 (by omega)).mul (hz 2 (by omega))).sub ((hz 1 (by omega)).mul (hy 2 (by omega))))).sub
    ((hy 0 (by omega)).mul (((hx 1 (by omega)).mul (hz 2 (by omega))).sub ((hz 1 (by omega)).mul (hx 2 (by omega)))))).add
    ((hz 0 (by omega)).mul (((hx 1 (by omega)).mul (hy 2 (by omega))).sub ((hy 1 (by omega)).mul (hx 2 (by omega)))))
theorem D2_a1 {B : Int} (hx : ∀ i, i < 2 → Ab 20 (A i x)) (hy : ∀ i, i < 2 → Ab B (A i y)) : Ab (40 * B) (D2 A x y) := (D2_ab hx hy).le (by omega)
theorem D2_a2 {B : Int} (hx : ∀ i, i < 2 → Ab B (A i x)) (hy : ∀ i, i < 2 → Ab 20 (A i y)) : Ab (40 * B) (D2 A x y) := (D2_ab hx hy).le (by omega)
theorem D3_a1 {B : Int} (hx : ∀ i, i < 3 → Ab B (A i x)) (hy : ∀ i, i < 3 → Ab 20 (A i y)) (hz : ∀ i, i < 3 → Ab 20 (A i z)) : Ab (2400 * B) (D3 A x y z) := (D3_ab hx hy hz).le (by omega)
theorem D3_a2 {B : Int} (hx : ∀ i, i < 3 → Ab 20 (A i x)) (hy : ∀ i, i < 3 → Ab B (A i y)) (hz : ∀ i, i < 3 → Ab 20 (A i z)) : Ab (2400 * B) (D3 A x y z) := (D3_ab hx hy hz).le (by omega)
theorem D3_a3 {B : Int} (hx : ∀ i, i < 3 → Ab 20 (A i x)) (hy : ∀ i, i < 3 → Ab 20 (A i y)) (hz : ∀ i, i < 3 → Ab B (A i z)) : Ab (2400 * B) (D3 A x y z) := (D3_ab hx hy hz).le (by omega)
theorem D4_a1 {B : Int} (hx : ∀ i, i < 4 → Ab B (A i x)) (hy : ∀ i, i < 4 → Ab 20 (A i y)) (hz : ∀ i, i < 4 → Ab 20 (A i z)) (hw : ∀ i, i < 4 → Ab 20 (A i w)) : Ab (192000 * B) (D4 A x y z w) :=
  (((((hw 3 (by omega)).mul (D3_a1 (fun i h => hx i (by omega)) (fun i h => hy i (by omega)) (fun i h => hz i (by omega)))).sub
    ((hz 3 (by omega)).mul (D3_a1 (fun i h => hx i (by omega)) (fun i h => hy i (by omega)) (fun i h => hw i (by omega))))).add
    ((hy 3 (by omega)).mul (D3_a1 (fun i h => hx i (by omega)) (fun i h => hz i (by omega)) (fun i h => hw i (by omega))))).sub
    ((hx 3 (by omega)).mul (D3_a1 (fun i h => hy i (by omega)) (fun i h => hz i (by omega)) (fun i h => hw i (by omega))))).le (by omega)
theorem D4_a2 {B : Int} (hx : ∀ i, i < 4 → Ab 20 (A i x)) (hy : ∀ i, i < 4 → Ab B (A i y)) (hz : ∀ i, i < 4 → Ab 20 (A i z)) (hw : ∀ i, i < 4 → Ab 20 (A i w)) : Ab (192000 * B) (D4 A x y z w) :=
  (((((hw 3 (by omega)).mul (D3_a2 (fun i h => hx i (by omega)) (fun i h => hy i (by omega)) (fun i h => hz i (by omega)))).sub
    ((hz 3 (by omega)).mul (D3_a2 (fun i h => hx i (by omega)) (fun i h => hy i (by omega)) (fun i h => hw i (by omega))))).add
    ((hy 3 (by omega)).mul (D3_a1 (fun i h => hx i (by omega)) (fun i h => hz i (by omega)) (fun i h => hw i (by omega))))).sub
    ((hx 3 (by omega)).mul (D3_a1 (fun i h => hy i (by omega)) (fun i h => hz i (by omega)) (fun i h => hw i (by omega))))).le (by omega)
theorem D4_a3 {B : Int} (hx : ∀ i, i < 4 → Ab 20 (A i x)) (hy : ∀ i, i < 4 → Ab 20 (A i y)) (hz : ∀ i, i < 4 → Ab B (A i z)) (hw : ∀ i, i < 4 → Ab 20 (A i w)) : Ab (192000 * B) (D4 A x y z w) :=
  (((((hw 3 (by omega)).mul (D3_a3 (fun i h => hx i (by omega)) (fun i h => hy i (by omega)) (fun i h => hz i (by omega)))).sub
    ((hz 3 (by omega)).mul (D3_a1 (fun i h => hx i (by omega)) (fun i h => hy i (by omega)) (fun i h => hw i (by omega))))).add
    ((hy 3 (by omega)).mul (D3_a2 (fun i h => hx i (by omega)) (fun i h => hz i (by omega)) (fun i h => hw i (by omega))))).sub
    ((hx 3 (by omega)).mul (D3_a2 (fun i h => hy i (by omega)) (fun i h => hz i (by omega)) (fun i h => hw i (by omega))))).le (by omega)
theorem D4_a4 {B : Int} (hx : ∀ i, i < 4 → Ab 20 (A i x)) (hy : ∀ i, i < 4 → Ab 20 (A i y)) (hz : ∀ i, i < 4 → Ab 20 (A i z)) (hw : ∀ i, i < 4 → Ab B (A i w)) : Ab (192000 * B) (D4 A x y z w) :=
  (((((hw 3 (by omega)).mul (D3_a1 (fun i h => hx i (by omega)) (fun i h => hy i (by omega)) (fun i h => hz i (by omega)))).sub
    ((hz 3 (by omega)).mul (D3_a3 (fun i h => hx i (by omega)) (fun i h => hy i (by omega)) (fun i h => hw i (by omega))))).add
    ((hy 3 (by omega)).mul (D3_a3 (fun i h => hx i (by omega)) (fun i h => hz i (by omega)) (fun i h => hw i (by omega))))).sub
    ((hx 3 (by omega)).mul (D3_a3 (fun i h => hy i (by omega)) (fun i h => hz i (by omega)) (fun i h => hw i (by omega))))).le (by omega)
end AB
/-- entries of a step's table -/
theorem bT_ab {A : Nat → Nat → Int} {N : Nat} (hN : N ≤ 5) (g : Gd N 0 1 A) (hq : ∀ r c, r < N → c < 5 → Ab 20 (A r c)) {B : Int} {c : Nat} (hc : ∀ r, r < N → Ab B (A r c)) {k : Nat} (hk : k < N) {r : Nat} (hr : r < N) : Ab (19200000 * B) ((bT A k).1 r c) ∧ (r ≠ k ∨ k < 4 → Ab (192000 * B) ((bT A k).1 r c)) := by
  have hB : 0 ≤ B := by have := hc r hr; unfold Ab at this; omega
  have hd : ∀ i, i ≤ k → (bT A i).2 ≠ 0 := fun i hi => by have := (Gd.all hN g k (by omega) i hi).1; omega
  have two : Ab (192000 * B) ((bT A k).1 r c) → Ab (19200000 * B) ((bT A k).1 r c) ∧ (r ≠ k ∨ k < 4 → Ab (192000 * B) ((bT A k).1 r c)) := fun h => ⟨h.le (by omega), fun _ => h⟩
  rcases (by omega : k = 0 ∨ k = 1 ∨ k = 2 ∨ k = 3 ∨ k = 4) with rfl | rfl | rfl | rfl | rfl
  · exact two ((hc r hr).le (by omega))
  · refine two ?_
    rw [S1]
    by_cases e0 : r = 0
    · rw [if_pos e0]; exact (hc 0 (by omega)).le (by omega)
    · rw [if_neg e0]
      exact (((hq 0 0 (by omega) (by omega)).mul (hc r hr)).sub ((hq r 0 hr (by omega)).mul (hc 0 (by omega)))).le (by omega)
  · refine two ?_
    have h1 : A 0 0 ≠ 0 := hd 1 (by omega)
    have q : ∀ x, x < 5 → ∀ i, i < 2 → Ab 20 (A i x) := fun x hx i hi => hq i x (by omega) hx
    have qc : ∀ i, i < 2 → Ab B (A i c) := fun i hi => hc i (by omega)
    have d1 := D2_a2 qc (q 1 (by omega))
    have d0 := D2_a1 (q 0 (by omega)) qc
    rw [S2 h1]
    by_cases e0 : r = 0
    · rw [if_pos e0]; exact d1.le (by omega)
    · rw [if_neg e0]
      by_cases e1 : r = 1
      · rw [if_pos e1]; exact d0.le (by omega)
      · rw [if_neg e1]
        exact ((((D2_a1 (q 0 (by omega)) (q 1 (by omega))).mul (hc r hr)).sub ((hq r 0 hr (by omega)).mul d1)).sub ((hq r 1 hr (by omega)).mul d0)).le (by omega)
  · refine two ?_
    have h1 : A 0 0 ≠ 0 := hd 1 (by omega)
    have h2 : D2 A 0 1 ≠ 0 := S2d (A := A) ▸ hd 2 (by omega)
    have q : ∀ x, x < 5 → ∀ i, i < 3 → Ab 20 (A i x) := fun x hx i hi => hq i x (by omega) hx
    have qc : ∀ i, i < 3 → Ab B (A i c) := fun i hi => hc i (by omega)
    have d0 := D3_a1 qc (q 1 (by omega)) (q 2 (by omega))
    have d1 := D3_a2 (q 0 (by omega)) qc (q 2 (by omega))
    have d2 := D3_a3 (q 0 (by omega)) (q 1 (by omega)) qc
    rw [S3 h1 h2]
    by_cases e0 : r = 0
    · rw [if_pos e0]; exact d0.le (by omega)
    · rw [if_neg e0]
      by_cases e1 : r = 1
      · rw [if_pos e1]; exact d1.le (by omega)
      · rw [if_neg e1]
        by_cases e2 : r = 2
        · rw [if_pos e2]; exact d2.le (by omega)
        · rw [if_neg e2]
          exact (((((D3_a1 (q 0 (by omega)) (q 1 (by omega)) (q 2 (by omega))).mul (hc r hr)).sub ((hq r 0 hr (by omega)).mul d0)).sub ((hq r 1 hr (by omega)).mul d1)).sub ((hq r 2 hr (by omega)).mul d2)).le (by omega)
  · have h1 : A 0 0 ≠ 0 := hd 1 (by omega)
    have h2 : D2 A 0 1 ≠ 0 := S2d (A := A) ▸ hd 2 (by omega)
    have h3 : D3 A 0 1 2 ≠ 0 := S3d (A := A) h1 ▸ hd 3 (by omega)
    have q : ∀ x, x < 5 → ∀ i, i < 4 → Ab 20 (A i x) := fun x hx i hi => hq i x (by omega) hx
    have qc : ∀ i, i < 4 → Ab B (A i c) := fun i hi => hc i (by omega)
    have d0 := D4_a1 qc (q 1 (by omega)) (q 2 (by omega)) (q 3 (by omega))
    have d1 := D4_a2 (q 0 (by omega)) qc (q 2 (by omega)) (q 3 (by omega))
    have d2 := D4_a3 (q 0 (by omega)) (q 1 (by omega)) qc (q 3 (by omega))
    have d3 := D4_a4 (q 0 (by omega)) (q 1 (by omega)) (q 2 (by omega)) qc
    rw [S4 h1 h2 h3] at two ⊢
    by_cases e0 : r = 0
    · rw [if_pos e0] at two ⊢; exact two d0
    · rw [if_neg e0] at two ⊢
      by_cases e1 : r = 1
      · rw [if_pos e1] at two ⊢; exact two d1
      · rw [if_neg e1] at two ⊢
        by_cases e2 : r = 2
        · rw [if_pos e2] at two ⊢; exact two d2
        · rw [if_neg e2] at two ⊢
          by_cases e3 : r = 3
          · rw [if_pos e3] at two ⊢; exact two d3
          · rw [if_neg e3]
            refine ⟨?_, fun h => absurd h (by omega)⟩
            exact ((((((D4_a1 (q 0 (by omega)) (q 1 (by omega)) (q 2 (by omega)) (q 3 (by omega))).mul (hc r hr)).sub ((hq r 0 hr (by omega)).mul d0)).sub ((hq r 1 hr (by omega)).mul d1)).sub ((hq r 2 hr (by omega)).mul d2)).sub ((hq r 3 hr (by omega)).mul d3)).le (by omega)
/-- what a step multiplies -/
theorem bT_pr {A : Nat → Nat → Int} {N : Nat} (hN : N ≤ 5) (g : Gd N 0 1 A) (hq : ∀ r c, r < N → c < 5 → Ab 20 (A r c)) {c : Nat} (hc : ∀ r, r < N → Ab 1209 (A r c)) {k : Nat} (hk : k < N) {r : Nat} (hr : r < N) (hn : r ≠ k) : Ab (2 ^ 61) ((bT A k).1 k k * (bT A k).1 r c) ∧ Ab (2 ^ 61) ((bT A k).1 r k * (bT A k).1 k c) := by
  have a := bT_ab hN g hq (B := 20) (c := k) (fun r hr => hq r k hr (by omega)) hk hk
  have b := bT_ab hN g hq (B := 20) (c := k) (fun r hr => hq r k hr (by omega)) hk hr
  have e := bT_ab hN g hq hc hk hk
  have f := bT_ab hN g hq hc hk hr
  exact ⟨(a.1.mul (f.2 (.inl hn))).le (by decide), ((b.2 (.inl hn)).mul e.1).le (by decide)⟩
/-! The table of a net, eliminated. -/
section NT
variable {v : Nv}
abbrev tB (v : Nv) (k : Nat) : Nat → Nat → Int := (bT (T0 v) k).1
abbrev dB (v : Nv) (k : Nat) : Int := (bT (T0 v) k).2
theorem T0q (k : VOk v) : ∀ r c, r < vN v → c < 5 → Ab 20 (T0 v r c) := fun _ _ hr hc => T0_sq k hr hc
theorem T0c (k : VOk v) {c : Nat} (hc : c < 8) : ∀ r, r < vN v → Ab 1209 (T0 v r c) := fun r hr => by
  by_cases l : c < 5
  · exact (show Ab 20 (T0 v r c) from T0_sq k hr l).le (by decide)
  · exact T0_cl k hr (by omega)
theorem tB_pos (k : VOk v) (ha : aH v (hgV v)) {i : Nat} (hi : i < vN v) : 0 < tB v i i i := (Gd.all (vN5 k) (T0_Gd k ha) i (by omega) i (Nat.le_refl i)).piv hi
theorem dB_pos (k : VOk v) (ha : aH v (hgV v)) {i : Nat} (hi : i ≤ vN v) : 0 < dB v i := (Gd.all (vN5 k) (T0_Gd k ha) i hi i (Nat.le_refl i)).1
theorem tB_pr (k : VOk v) (ha : aH v (hgV v)) {i r c : Nat} (hi : i < vN v) (hr : r < vN v) (hn : r ≠ i) (hc : c < 8) : Ab (2 ^ 61) (tB v i i i * tB v i r c) ∧ Ab (2 ^ 61) (tB v i r i * tB v i i c) := bT_pr (vN5 k) (T0_Gd k ha) (T0q k) (T0c k hc) hi hr hn
theorem tB_ab (k : VOk v) (ha : aH v (hgV v)) {i r c : Nat} (hi : i < vN v) (hr : r < vN v) (hc : c < 8) : Ab (2 ^ 36) (tB v i r c) := (bT_ab (vN5 k) (T0_Gd k ha) (T0q k) (T0c k hc) hi hr).1.le (by decide)
/-- the places, over dB v (vN v) -/
theorem tB_b (k : VOk v) (ha : aH v (hgV v)) {r c : Nat} (hr : r < vN v) (hc : 5 ≤ c ∧ c < 8) : -(225 * dB v (vN v)) ≤ tB v (vN v) r c ∧ tB v (vN v) r c ≤ 285 * dB v (vN v) := by
  have := vN5 k
  exact bnd (vN5 k) (T0_Gd k ha) (fun r c hr hc => T0_sym k (by omega) (by omega)) (fun r hr => T0_col k hc) r hr
theorem dB_b (k : VOk v) (ha : aH v (hgV v)) : dB v (vN v) ≤ 384000000 := by
  have h5 := vN5 k
  cases e : vN v with
  | zero => show (1 : Int) ≤ _; decide
  | succ n =>
    show tB v n n n ≤ _
    have := (bT_ab (vN5 k) (T0_Gd k ha) (T0q k) (B := 20) (c := n) (fun r hr => T0q k r n hr (by omega)) (k := n) (r := n) (by omega) (by omega)).1
    exact this.2
theorem tB_z (k : VOk v) {c : Nat} (hc : vN v ≤ c) (h5 : c < 5) : ∀ i r, i ≤ vN v → tB v i r c = 0
  | 0, r, _ => T0_z k hc h5
  | i + 1, r, hi => by
    show bs i _ (tB v i) r c = 0
    unfold bs
    rw [tB_z k hc h5 i r (by omega), tB_z k hc h5 i i (by omega)]
    simp
end NT
