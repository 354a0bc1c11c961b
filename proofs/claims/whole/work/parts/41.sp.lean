/-! What every call answers, and what it leaves: the state is text, its length, the net, how many changes are kept, the nets ahead of them. -/
abbrev St : Type := (Nat → Int) × Nat × Nv × Nat × (Nat → Nv)
abbrev sT (s : St) : Nat → Int := s.1
abbrev sL (s : St) : Nat := s.2.1
abbrev sV (s : St) : Nv := s.2.2.1
abbrev sK (s : St) : Nat := s.2.2.2.1
abbrev sP (s : St) : Nat → Nv := s.2.2.2.2
def psh (s : St) (v : Nv) : St := (sT s, sL s, v, if sK s < 6 then sK s + 1 else 6, fun t => if t = 0 then sV s else sP s (t - 1))
abbrev isS (v : Nv) (k : Int) : Prop := 0 ≤ k ∧ k < vS v
abbrev isJ (v : Nv) (j : Int) : Prop := 0 ≤ j ∧ j < vJ v
def aWrite (s : St) (c : Int) : Int × St := if 32 ≤ c ∧ c ≤ 126 then (if sL s < 200 then ((sL s : Int) + 1, (fun i => if i = sL s then c else sT s i, sL s + 1, sV s, sK s, sP s)) else (-3, s)) else (-1, s)
def aWipe (s : St) : Int × St := ((sL s : Int), (sT s, 0, sV s, sK s, sP s))
noncomputable def rdA (s : St) : Int × Nv := pAll (sT s) (sL s) (sL s + 1) 0 v0
noncomputable def aFault (s : St) : Int × St := ((rdA s).1, s)
noncomputable def aLay (s : St) : Int × St := if (rdA s).1 = -4 ∧ vJ (rdA s).2 ≠ 0 then ((vJ (rdA s).2 : Int), (sT s, sL s, (rdA s).2, 0, sP s)) else (-2, s)
def aDens (s : St) (k q : Int) : Int × St := if isS (sV s) k ∧ 1 ≤ q ∧ q ≤ 5 then (if vQ (sV s) k.toNat = q then (-2, s) else (vQ (sV s) k.toNat, psh s (vQ1 (sV s) k.toNat q))) else (-1, s)
def aWant (s : St) (k q : Int) : Int × St := if isS (sV s) k ∧ 0 ≤ q ∧ q ≤ 99 then (if vW (sV s) k.toNat = q then (-2, s) else (vW (sV s) k.toNat, psh s (vW1 (sV s) k.toNat q))) else (-1, s)
def aLoad (s : St) (j l : Int) : Int × St := if isJ (sV s) j ∧ vF (sV s) j.toNat = true ∧ -9 ≤ l ∧ l ≤ 9 then (if vLd (sV s) j.toNat = l then (-2, s) else (vLd (sV s) j.toNat + 9, psh s (vL1 (sV s) j.toNat l))) else (-1, s)
def aMove (s : St) (j a x : Int) : Int × St := if (isJ (sV s) j ∧ vF (sV s) j.toNat = false) ∧ (0 ≤ a ∧ a ≤ 2) ∧ 0 ≤ x ∧ x ≤ 60 then (if vP (sV s) j.toNat a.toNat = x then (-2, s) else (vP (sV s) j.toNat a.toNat, psh s (vP1 (sV s) j.toNat a.toNat x))) else (-1, s)
def aDown (s : St) (k i : Int) : Int × St := if isS (sV s) k ∧ 0 ≤ i ∧ i ≤ 1 then (if vH (sV s) k.toNat = decide (i = 0) then (-2, s) else ((cnt (vH (vH1 (sV s) k.toNat (decide (i = 0)))) (vS (sV s)) : Int), psh s (vH1 (sV s) k.toNat (decide (i = 0))))) else (-1, s)
noncomputable def rndC (v : Nv) (n : Nat) : Int := sm (fun i => bi (chg (itr v i))) n
noncomputable def aRound (s : St) (n : Int) : Int × St := if 1 ≤ n ∧ n ≤ 20 then cif (aH (sV s) (hgV (sV s))) (rndC (sV s) n.toNat, psh s (itr (sV s) n.toNat)) (-2, s) else (-1, s)
def aUndo (s : St) : Int × St := if sK s = 0 then (-2, s) else ((sK s : Int) - 1, (sT s, sL s, sP s 0, sK s - 1, fun t => sP s (t + 1)))
/-- a number by its bits -/
noncomputable def bits (P : Nat → Prop) : Int := Classical.epsilon (fun x : Int => 0 ≤ x ∧ ∀ i, tb x i ↔ P i)
theorem bits_of {P : Nat → Prop} {x : Int} (h0 : 0 ≤ x) (h : ∀ i, tb x i ↔ P i) : bits P = x := by
  have q : 0 ≤ bits P ∧ ∀ i, tb (bits P) i ↔ P i := Classical.epsilon_spec (p := fun x : Int => 0 ≤ x ∧ ∀ i, tb x i ↔ P i) ⟨x, h0, h⟩
  exact tb_ext q.1 h0 (fun i => (q.2 i).trans (h i).symm)
noncomputable def jnt (v : Nv) (j : Nat) (w : Int) : Int := if w = 0 then (if vF v j = true then 1 else 0) else if w = 4 then bits (fun i => i < vS v ∧ atH v j i) else if w = 5 then vLd v j + 9 else if w = 6 then bi (hg v (hgV v) j) else cif (aH v (hgV v)) (if w = 7 then bi (vF v j = true → ∀ a, a < 3 → btw v j a) else hU v j (w - 1).toNat + 1000000) (-2)
noncomputable def aJoint (s : St) (j w : Int) : Int × St := (if isJ (sV s) j ∧ 0 ≤ w ∧ w ≤ 7 then jnt (sV s) j.toNat w else -1, s)
noncomputable def gcdV (v : Nv) (j a : Nat) : Int := (Nat.gcd (zA v j a).natAbs (dB v (vN v)).natAbs : Nat)
noncomputable def aExact (s : St) (j a p : Int) : Int × St := (if isJ (sV s) j ∧ (0 ≤ a ∧ a ≤ 2) ∧ 0 ≤ p ∧ p ≤ 1 then cif (aH (sV s) (hgV (sV s))) ((if p = 0 then zA (sV s) j.toNat a.toNat else dB (sV s) (vN (sV s))).tdiv (gcdV (sV s) j.toNat a.toNat)) (-2000000001) else -2000000000, s)
noncomputable def aBears (s : St) (j a : Int) : Int × St := (if (isJ (sV s) j ∧ vF (sV s) j.toNat = false) ∧ 0 ≤ a ∧ a ≤ 2 then cif (aH (sV s) (hgV (sV s))) (sm (brn (sV s) j.toNat a.toNat) (vS (sV s)) + 1000000) (-2) else -1, s)
noncomputable def hst (v : Nv) (k : Nat) (w : Int) : Int := if vH v k = false ∨ (w = 7 ∧ vW v k = 0) then -4 else if w = 5 then len v k else if w = 6 then vQ v k * len v k else if w = 7 then offV v k else bi (ndd v k)
noncomputable def strd (v : Nv) (k : Nat) (w : Int) : Int := if w = 0 then (vA v k : Int) else if w = 1 then (vB v k : Int) else if w = 2 then vQ v k else if w = 3 then vW v k else if w = 4 then (if vH v k = true then 0 else 1) else cif (aH v (hgV v)) (hst v k w) (-2)
noncomputable def aStrand (s : St) (k w : Int) : Int × St := (if isS (sV s) k ∧ 0 ≤ w ∧ w ≤ 8 then strd (sV s) k.toNat w else -1, s)
noncomputable def aSlack (s : St) : Int × St := (cif (aH (sV s) (hgV (sV s))) (bits (fun i => i < vS (sV s) ∧ vH (sV s) i = true ∧ len (sV s) i < 100 * vW (sV s) i)) (-2), s)
noncomputable def aMiss (s : St) : Int × St := (cif (aH (sV s) (hgV (sV s))) (missV (sV s)) (-2), s)
/-- the first round that changes nothing -/
noncomputable def setl (v : Nv) (w : Int) : Int := cif (∀ t, t ≤ 60 → chg (itr v t)) (-4) (Classical.epsilon (fun x : Int => ∃ i : Nat, i ≤ 60 ∧ (∀ t, t < i → chg (itr v t)) ∧ ¬ chg (itr v i) ∧ x = if w = 0 then (i : Int) else missV (itr v i)))
theorem setl_i {v : Nv} {w : Int} {i : Nat} (hi : i ≤ 60) (h1 : ∀ t, t < i → chg (itr v t)) (h2 : ¬ chg (itr v i)) : setl v w = if w = 0 then (i : Int) else missV (itr v i) := by
  unfold setl
  rw [cif_f (fun z => h2 (z i hi))]
  obtain ⟨j, _, j1, j2, e⟩ := Classical.epsilon_spec (p := fun x : Int => ∃ i : Nat, i ≤ 60 ∧ (∀ t, t < i → chg (itr v t)) ∧ ¬ chg (itr v i) ∧ x = if w = 0 then (i : Int) else missV (itr v i)) ⟨_, i, hi, h1, h2, rfl⟩
  have : j = i := by
    rcases Nat.lt_trichotomy i j with l | l | l
    · exact absurd (j1 i l) h2
    · exact l.symm
    · exact absurd (h1 j l) j2
  rw [e, this]
noncomputable def aSettle (s : St) (w : Int) : Int × St := (if 0 ≤ w ∧ w ≤ 1 then cif (aH (sV s) (hgV (sV s))) (setl (sV s) w) (-2) else -1, s)
noncomputable def aBetter (s : St) (w : Int) : Int × St := (if 0 ≤ w ∧ w ≤ 1 then cif (aH (sV s) (hgV (sV s))) (if (tAl (sV s) (vS (sV s))).2 = -4 then -4 else if w = 0 then (tAl (sV s) (vS (sV s))).2 else (tAl (sV s) (vS (sV s))).1) (-2) else -1, s)
noncomputable def gsz (v : Nv) (w : Int) (k : Nat) : Int := if w = 0 then len v k else vQ v k * len v k
noncomputable def grt (v : Nv) (w : Int) : Nat → Int × Int
  | 0 => (-4, -1)
  | k + 1 => if vH v k = true ∧ (grt v w k).2 < gsz v w k then ((k : Int), gsz v w k) else grt v w k
noncomputable def aGreatest (s : St) (w : Int) : Int × St := (if 0 ≤ w ∧ w ≤ 1 then cif (aH (sV s) (hgV (sV s))) (grt (sV s) w (vS (sV s))).1 (-2) else -1, s)
/-- first fit by the order -/
noncomputable def ordV (v : Nv) : Nat × (Nat → Nat) := Classical.epsilon (fun q : Nat × (Nat → Nat) => isOrd v q.1 q.2)
theorem ordV_of {v : Nv} {P : Nat} {o : Nat → Nat} (h : isOrd v P o) : (ordV v).1 = P ∧ ∀ k, k < P → (ordV v).2 k = o k := by
  have q : isOrd v (ordV v).1 (ordV v).2 := Classical.epsilon_spec (p := fun q : Nat × (Nat → Nat) => isOrd v q.1 q.2) ⟨(P, o), h⟩
  have e := isOrd_P q h
  exact ⟨e, fun k hk => isOrd_le q h k (by omega) hk⟩
noncomputable def xsV (v : Nv) : Nat → Int := xs v (ordV v).1 (ordV v).2
theorem xsV_of {v : Nv} {P : Nat} {o : Nat → Nat} (h : isOrd v P o) : xsV v = xs v P o := by
  obtain ⟨e1, e2⟩ := ordV_of h
  funext k
  unfold xsV xs
  rw [e1]
  by_cases q : k < P
  · rw [if_pos q, if_pos q, e2 k q]
  · rw [if_neg q, if_neg q]
noncomputable def ffV (v : Nv) : (Nat → Int) × Nat := ff (Zr v) (xsV v) (ordV v).1
theorem ffV_of {v : Nv} {P : Nat} {o : Nat → Nat} (h : isOrd v P o) : ffV v = ff (Zr v) (xs v P o) P := by
  unfold ffV
  rw [xsV_of h, (ordV_of h).1]
noncomputable def rofV (v : Nv) (s : Nat) : Int := Classical.epsilon (fun x : Int => ∃ k, k < (ordV v).1 ∧ (ordV v).2 k = s ∧ x = (ffr (Zr v) (xsV v) k : Int))
theorem rofV_of {v : Nv} {P k : Nat} {o : Nat → Nat} (h : isOrd v P o) (hk : k < P) : rofV v (o k) = (ffr (Zr v) (xs v P o) k : Int) := by
  obtain ⟨e1, e2⟩ := ordV_of h
  obtain ⟨i, i1, i2, e⟩ := Classical.epsilon_spec (p := fun x : Int => ∃ i, i < (ordV v).1 ∧ (ordV v).2 i = o k ∧ x = (ffr (Zr v) (xsV v) i : Int)) ⟨_, k, by omega, e2 k hk, rfl⟩
  have : i = k := isOrd_inj h (by omega) hk (by rw [← e2 i (by omega)]; exact i2)
  show Classical.epsilon _ = _
  rw [e, this, xsV_of h]
noncomputable def minV (v : Nv) : Int := Classical.epsilon (isMin v (szV v))
theorem minV_of {v : Nv} {x : Int} (h : isMin v (szV v) x) : minV v = x := isMin_un (Classical.epsilon_spec (p := isMin v (szV v)) ⟨x, h⟩) h
noncomputable def aRolls (s : St) (w : Int) : Int × St := (if 0 ≤ w ∧ w ≤ 2 then cif (aH (sV s) (hgV (sV s))) (cif (fitAll (sV s)) (if w = 0 then ((ffV (sV s)).2 : Int) else if w = 1 then minV (sV s) else sm (ffV (sV s)).1 (ffV (sV s)).2) (-4)) (-2) else -1, s)
noncomputable def aRollOf (s : St) (k : Int) : Int × St := (if isS (sV s) k then cif (aH (sV s) (hgV (sV s))) (if vH (sV s) k.toNat = true then cif (fitAll (sV s)) (rofV (sV s) k.toNat) (-4) else -4) (-2) else -1, s)
noncomputable def hcnt (v : Nv) : Nat := cnt (fun j => @decide (vF v j = true ∧ hg v (hgV v) j) (Classical.propDecidable _)) (vJ v)
noncomputable def aCount (s : St) (w : Int) : Int × St := (if w = 0 then (vJ (sV s) : Int) else if w = 1 then (vN (sV s) : Int) else if w = 2 then (vS (sV s) : Int) else if w = 3 then (cnt (vH (sV s)) (vS (sV s)) : Int) else if w = 4 then (hcnt (sV s) : Int) else if w = 5 then (sK s : Int) else if w = 6 then (sL s : Int) else if w = 7 then vR (sV s) else if w = 8 then vE (sV s) else -1, s)
