/-! Fewest rolls by sets: the mathematics; an order there is. -/
theorem isOrdB_ex {v : Nv} : ∀ K, ∃ P o, P ≤ K ∧ isOrdB v K P o
  | 0 => ⟨0, fun _ => 0, Nat.le_refl 0, fun k hk => by omega, fun i j _ hj => by omega, fun s hs => by omega⟩
  | K + 1 => by
    obtain ⟨P, o, hP, h⟩ := isOrdB_ex (v := v) K
    by_cases hK : vH v K = true
    · have ex : ∀ n, n ≤ P → (∀ i, n ≤ i → i < P → len v (o i) < len v K) → ∃ q, q ≤ P ∧ (∀ i, q ≤ i → i < P → len v (o i) < len v K) ∧ (0 < q → len v K ≤ len v (o (q - 1))) := by
        intro n
        induction n with
        | zero => intro _ h; exact ⟨0, Nat.zero_le _, h, fun z => by omega⟩
        | succ n ih =>
          intro hn h
          by_cases l : len v (o n) < len v K
          · exact ih (by omega) (fun i hi hp => if e : i = n then by rw [e]; exact l else h i (by omega) hp)
          · exact ⟨n + 1, hn, h, fun _ => by rw [Nat.add_sub_cancel]; omega⟩
      obtain ⟨q, q1, q2, q3⟩ := ex P (Nat.le_refl P) (fun i hi hp => by omega)
      exact ⟨P + 1, insO o q K, by omega, isOrdB_ins h q1 hK q2 q3⟩
    · exact ⟨P, o, by omega, isOrdB_no h (by cases z : vH v K with | false => rfl | true => exact absurd z hK)⟩
theorem isOrd_ex {v : Nv} : ∃ P o, P ≤ vS v ∧ isOrd v P o := isOrdB_ex (vS v)
noncomputable def bsm (K : Nat) (sz : Nat → Int) (S : Nat → Prop) (f : Nat → Nat) (r : Nat) : Int := sm (fun k => cif (S k ∧ f k = r) (sz k) 0) K
def BP (K : Nat) (sz : Nat → Int) (Z : Int) (S : Nat → Prop) (F : Nat) (G : Int) : Prop :=
  (∃ f : Nat → Nat, (∀ k, k < K → S k → f k < F) ∧ (∀ r, r < F → bsm K sz S f r ≤ Z) ∧ bsm K sz S f (F - 1) = G) ∧ 1 ≤ F ∧ ∀ (c : Nat) (f : Nat → Nat) (b : Nat), b < c → (∀ k, k < K → S k → f k < c) → (∀ r, r < c → bsm K sz S f r ≤ Z) → F < c ∨ (F = c ∧ G ≤ bsm K sz S f b)
section BPS
variable {K : Nat} {sz : Nat → Int} {Z : Int} {S : Nat → Prop}
theorem bsm_rm {f : Nat → Nat} {r k : Nat} (hk : k < K) (hS : S k) : bsm K sz S f r = bsm K sz (fun i => S i ∧ i ≠ k) f r + if f k = r then sz k else 0 := by
  unfold bsm
  have : (if f k = r then sz k else 0) = sm (fun i => if i = k then (if f k = r then sz k else 0) else 0) K := by rw [sm_one, if_pos hk]
  rw [this, ← sm_add]
  refine sm_congr K (fun i _ => ?_)
  by_cases e : i = k
  · subst e
    rw [if_pos rfl, cif_f (c := (S i ∧ i ≠ i) ∧ f i = r) (fun z => z.1.2 rfl), Int.zero_add]
    by_cases q : f i = r
    · rw [if_pos q, cif_t ⟨hS, q⟩]
    · rw [if_neg q, cif_f (fun z => q z.2)]
  · rw [if_neg e, Int.add_zero]
    by_cases q : S i ∧ f i = r
    · rw [cif_t q, cif_t ⟨⟨q.1, e⟩, q.2⟩]
    · rw [cif_f q, cif_f (fun z => q ⟨z.1.1, z.2⟩)]
theorem bsm_c {f g : Nat → Nat} {r q : Nat} (h : ∀ i, i < K → S i → (f i = r ↔ g i = q)) : bsm K sz S f r = bsm K sz S g q := by
  refine sm_congr K (fun i hi => ?_)
  by_cases z : S i
  · have := h i hi z
    by_cases y : f i = r
    · rw [cif_t ⟨z, y⟩, cif_t ⟨z, this.mp y⟩]
    · rw [cif_f (fun w => y w.2), cif_f (fun w => y (this.mpr w.2))]
  · rw [cif_f (fun w => z w.1), cif_f (fun w => z w.1)]
theorem bsm_0 {f : Nat → Nat} {r : Nat} (h : ∀ i, i < K → S i → f i ≠ r) : bsm K sz S f r = 0 := by
  unfold bsm
  rw [sm_congr (g := fun _ => 0) K (fun i hi => cif_f (fun z => h i hi z.1 z.2)), sm_z]
theorem bsm_nn {f : Nat → Nat} {r : Nat} (h0 : ∀ k, k < K → S k → 0 ≤ sz k) : 0 ≤ bsm K sz S f r := sm_nn K (fun i hi => by
  by_cases q : S i ∧ f i = r
  · rw [cif_t q]; exact h0 i hi q.1
  · rw [cif_f q]; exact Int.le_refl 0)
theorem BP.le {F : Nat} {G : Int} (h : BP K sz Z S F G) (hZ : 0 ≤ Z) (h1 : ∀ k, k < K → S k → sz k ≤ Z) (hK : 0 < K) : F ≤ K := by
  have := h.2.2 K (fun k => k) 0 hK (fun k hk _ => hk) (fun r hr => by
    by_cases z : S r
    · rw [bsm_rm hr z, if_pos rfl, bsm_0 (fun i _ q => q.2)]
      have := h1 r hr z
      omega
    · rw [bsm_0 (fun i _ q e => z (by have e : i = r := e; rw [← e]; exact q))]
      exact hZ)
  omega
theorem BP.g {F : Nat} {G : Int} (h : BP K sz Z S F G) (h0 : ∀ k, k < K → S k → 0 ≤ sz k) : 0 ≤ G ∧ G ≤ Z := by
  obtain ⟨⟨f, f1, f2, f3⟩, h1, _⟩ := h
  exact ⟨by rw [← f3]; exact bsm_nn h0, by rw [← f3]; exact f2 _ (by omega)⟩
def lxl (p q : Nat × Int) : Prop := p.1 < q.1 ∨ (p.1 = q.1 ∧ p.2 ≤ q.2)
theorem BP_step {J : Nat → Nat × Int} {F : Nat} {G : Int} (hZ : 0 ≤ Z) (hb : ∀ k, k < K → S k → 0 ≤ sz k ∧ sz k ≤ Z)
    (hJ : ∀ k, k < K → S k → ((∃ i, i < K ∧ S i ∧ i ≠ k) ∧ ∃ F' G', BP K sz Z (fun i => S i ∧ i ≠ k) F' G' ∧ J k = if G' + sz k ≤ Z then (F', G' + sz k) else (F' + 1, sz k)) ∨ ((∀ i, i < K → S i → i = k) ∧ J k = (1, sz k)))
    (hm : ∃ k, k < K ∧ S k ∧ (F, G) = J k) (hl : ∀ k, k < K → S k → lxl (F, G) (J k)) : BP K sz Z S F G := by
  have h0 : ∀ k, k < K → S k → 0 ≤ sz k := fun k hk hs => (hb k hk hs).1
  have h0' : ∀ k, ∀ i, i < K → (S i ∧ i ≠ k) → 0 ≤ sz i := fun k i hi hs => h0 i hi hs.1
  have rmle : ∀ (f : Nat → Nat) (r k : Nat), k < K → S k → bsm K sz (fun i => S i ∧ i ≠ k) f r ≤ bsm K sz S f r := fun f r k hk hs => by
    rw [bsm_rm hk hs]
    have := h0 k hk hs
    split <;> omega
  have C1 : ∀ (c : Nat) (f : Nat → Nat) (k : Nat), k < K → S k → (∀ i, i < K → S i → f i < c) → (∀ r, r < c → bsm K sz S f r ≤ Z) → F < c ∨ (F = c ∧ G ≤ bsm K sz S f (f k)) := by
    intro c f k hk hs f1 f2
    have hkc := f1 k hk hs
    have e1 := bsm_rm (sz := sz) (f := f) (r := f k) hk hs
    rw [if_pos rfl] at e1
    have nn := bsm_nn (K := K) (sz := sz) (S := fun i => S i ∧ i ≠ k) (f := f) (r := f k) (h0' k)
    have zl := f2 (f k) hkc
    have L := hl k hk hs
    unfold lxl at L
    rcases hJ k hk hs with ⟨_, F', G', B, eJ⟩ | ⟨_, eJ⟩
    · have q := B.2.2 c f (f k) hkc (fun i hi z => f1 i hi z.1) (fun r hr => Int.le_trans (rmle f r k hk hs) (f2 r hr))
      rw [eJ] at L
      by_cases ft : G' + sz k ≤ Z
      · rw [if_pos ft] at L
        have L : F < F' ∨ (F = F' ∧ G ≤ G' + sz k) := L
        omega
      · rw [if_neg ft] at L
        have L : F < F' + 1 ∨ (F = F' + 1 ∧ G ≤ sz k) := L
        omega
    · rw [eJ] at L
      have L : F < 1 ∨ (F = 1 ∧ G ≤ sz k) := L
      omega
  refine ⟨?_, ?_, ?_⟩
  · obtain ⟨k, hk, hs, e⟩ := hm
    have bk := hb k hk hs
    rcases hJ k hk hs with ⟨_, F', G', B, eJ⟩ | ⟨on, eJ⟩
    · obtain ⟨⟨f, f1, f2, f3⟩, F1, _⟩ := B
      rw [eJ] at e
      by_cases ft : G' + sz k ≤ Z
      · rw [if_pos ft] at e
        have eF : F = F' := congrArg Prod.fst e
        have eG : G = G' + sz k := congrArg Prod.snd e
        subst eF
        have ec : ∀ r, bsm K sz (fun i => S i ∧ i ≠ k) (fun i => if i = k then F - 1 else f i) r = bsm K sz (fun i => S i ∧ i ≠ k) f r := fun r => bsm_c (fun i _ z => by rw [if_neg z.2])
        have ek : (if k = k then F - 1 else f k) = F - 1 := if_pos rfl
        refine ⟨fun i => if i = k then F - 1 else f i, fun i hi z => ?_, fun r hr => ?_, ?_⟩
        · show (if i = k then F - 1 else f i) < F
          by_cases q : i = k
          · rw [if_pos q]; omega
          · rw [if_neg q]; exact f1 i hi ⟨z, q⟩
        · rw [bsm_rm hk hs, ec, ek]
          by_cases q : F - 1 = r
          · rw [if_pos q, ← q, f3]; exact ft
          · rw [if_neg q]
            have := f2 r hr
            omega
        · rw [bsm_rm hk hs, ec, ek, if_pos rfl, f3]
          exact eG.symm
      · rw [if_neg ft] at e
        have eF : F = F' + 1 := congrArg Prod.fst e
        have eG : G = sz k := congrArg Prod.snd e
        subst eF
        have ec : ∀ r, bsm K sz (fun i => S i ∧ i ≠ k) (fun i => if i = k then F' else f i) r = bsm K sz (fun i => S i ∧ i ≠ k) f r := fun r => bsm_c (fun i _ z => by rw [if_neg z.2])
        have ek : (if k = k then F' else f k) = F' := if_pos rfl
        have ez : bsm K sz (fun i => S i ∧ i ≠ k) f F' = 0 := bsm_0 (fun i hi z => by have := f1 i hi z; omega)
        refine ⟨fun i => if i = k then F' else f i, fun i hi z => ?_, fun r hr => ?_, ?_⟩
        · show (if i = k then F' else f i) < F' + 1
          by_cases q : i = k
          · rw [if_pos q]; omega
          · rw [if_neg q]; have := f1 i hi ⟨z, q⟩; omega
        · rw [bsm_rm hk hs, ec, ek]
          by_cases q : F' = r
          · rw [if_pos q, ← q, ez]; omega
          · rw [if_neg q]
            have := f2 r (by omega)
            omega
        · rw [Nat.add_sub_cancel, bsm_rm hk hs, ec, ek, if_pos rfl, ez]
          omega
    · rw [eJ] at e
      have eF : F = 1 := congrArg Prod.fst e
      have eG : G = sz k := congrArg Prod.snd e
      subst eF
      have ez : ∀ r, bsm K sz (fun i => S i ∧ i ≠ k) (fun _ => 0) r = 0 := fun r => bsm_0 (fun i hi z => absurd (on i hi z.1) z.2)
      refine ⟨fun _ => 0, fun _ _ _ => Nat.zero_lt_one, fun r hr => ?_, ?_⟩
      · rw [bsm_rm hk hs, ez]
        have : (0 : Nat) = r := by omega
        rw [if_pos this]; omega
      · rw [bsm_rm hk hs, ez, if_pos rfl]; omega
  · obtain ⟨k, hk, hs, e⟩ := hm
    rcases hJ k hk hs with ⟨_, F', G', B, eJ⟩ | ⟨on, eJ⟩
    · rw [eJ] at e
      have := B.2.1
      by_cases ft : G' + sz k ≤ Z
      · rw [if_pos ft] at e
        have eF : F = F' := congrArg Prod.fst e
        omega
      · rw [if_neg ft] at e
        have eF : F = F' + 1 := congrArg Prod.fst e
        omega
    · rw [eJ] at e
      have eF : F = 1 := congrArg Prod.fst e
      omega
  · intro c f b hbc f1 f2
    by_cases z : ∃ k, k < K ∧ S k ∧ f k = b
    · obtain ⟨k, hk, hs, ek⟩ := z
      have := C1 c f k hk hs f1 f2
      rw [ek] at this; exact this
    · have nb : ∀ i, i < K → S i → f i ≠ b := fun i hi hs e => z ⟨i, hi, hs, e⟩
      obtain ⟨k, hk, hs, _⟩ := hm
      have := C1 (c - 1) (fun i => if b < f i then f i - 1 else f i) k hk hs (fun i hi hs => by
        have := f1 i hi hs
        have := nb i hi hs
        show (if b < f i then f i - 1 else f i) < c - 1
        split <;> omega) (fun r hr => by
        rw [bsm_c (g := f) (q := if r < b then r else r + 1) (fun i hi hs => by
          have := nb i hi hs
          constructor <;> intro w <;> (repeat' split at w) <;> (repeat' split) <;> omega)]
        exact f2 _ (by split <;> omega))
      have kc := f1 k hk hs
      have kb := nb k hk hs
      omega
end BPS
theorem BP_min {v : Nv} {F : Nat} {G : Int} (h : BP (vS v) (szV v) (Zr v) (fun k => vH v k = true) F G) (hn : ∃ k, k < vS v ∧ vH v k = true) : isMin v (szV v) (F : Int) := by
  have ec : ∀ (f : Nat → Nat) (r : Nat), bsm (vS v) (szV v) (fun k => vH v k = true) f r = sm (fun s => if vH v s = true ∧ f s = r then szV v s else 0) (vS v) := fun f r => sm_congr _ (fun i _ => by
    by_cases q : vH v i = true ∧ f i = r
    · rw [cif_t q, if_pos q]
    · rw [cif_f q, if_neg q])
  obtain ⟨⟨f, f1, f2, _⟩, F1, lo⟩ := h
  refine ⟨F, rfl, ⟨f, f1, fun r hr => by rw [← ec]; exact f2 r hr⟩, fun t ht => ?_⟩
  rintro ⟨g, g1, g2⟩
  obtain ⟨k, hk, hs⟩ := hn
  have := g1 k hk hs
  have := lo t g 0 (by omega) g1 (fun r hr => by rw [ec]; exact g2 r hr)
  omega
theorem BP_min0 {v : Nv} (hn : ¬ ∃ k, k < vS v ∧ vH v k = true) : isMin v (szV v) 0 := ⟨0, rfl, ⟨fun _ => 0, fun s hs hh => absurd ⟨s, hs, hh⟩ hn, fun r hr => by omega⟩, fun t ht => by omega⟩
