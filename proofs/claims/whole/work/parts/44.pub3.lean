/-! The class's calls: round, undo, and what is asked. -/
theorem CInv.ch2 {S : Nat → Prop} {h g H : Hp} {s : St} {n d : Nat} {v' : Nv} (hR : ROk h.2.2) (hnd : n = 24 ∧ d = 31 ∨ n = 31 ∧ d = 24) (hN : h.2.2 0 6 = n) (hD : h.2.2 0 7 = d) (hT : TX h (sT s) (sL s)) (hF : Fr inPs h g) (hp : PastOk g (if sK s < 6 then sK s + 1 else 6) (fun t => if t = 0 then sV s else sP s (t - 1))) (hF2 : Fr S g H) (hS : ∀ i, S i → inN n i ∨ inQ i) (hV : cV H n = v') (okH : NOk H n) : CInv H (psh s v') := by
  refine ⟨hF2.R (hF.R hR), ⟨n, d, hnd, by rw [hF2.2.2, hF.2.2]; exact hN, by rw [hF2.2.2, hF.2.2]; exact hD, okH, hV⟩, (hT.fr hF ?_ ?_).fr hF2 ?_ ?_, hp.fr hF2 ?_⟩
  · unfold inPs; omega
  · unfold inPs; omega
  · intro z; rcases hS 1 z with q | q <;> unfold inN at * <;> unfold inQ at * <;> omega
  · intro z; rcases hS 2 z with q | q <;> unfold inN at * <;> unfold inQ at * <;> omega
  · intro i z; rcases hS i z with q | q <;> unfold inN at * <;> unfold inQ at * <;> omega
theorem c_find0 {h : Hp} {n s : Nat} (hR : ROk h.2.2) (hn : isNet n) (hs : isShp s) (ok : NOk h n) (ha : ¬ aH (cV h n) (hgV (cV h n))) : Ev mX4_find 3 0 (entL [.ref s, .ref n] 2) [] h (PI (fun x h' => x = 0 ∧ h' = h)) := by
  refine Ev.mono (c_find hR hn hs ok) ?_
  rintro v h' ⟨x, rfl, ⟨_, h1, h2⟩ | ⟨z, _⟩⟩
  · exact ⟨x, rfl, h1, h2⟩
  · exact absurd z ha
theorem c_find1 {h : Hp} {n s : Nat} (hR : ROk h.2.2) (hn : isNet n) (hs : isShp s) (ok : NOk h n) (ha : aH (cV h n) (hgV (cV h n))) : Ev mX4_find 3 0 (entL [.ref s, .ref n] 2) [] h (PI (fun x h' => x = 1 ∧ Fr (inS s) h h' ∧ sameN h' h n ∧ NOk h' n ∧ ROk h'.2.2 ∧ ShOk h' s (cV h' n))) := by
  refine Ev.mono (c_find hR hn hs ok) ?_
  rintro v h' ⟨x, rfl, ⟨z, _⟩ | ⟨_, h1, h2, h3⟩⟩
  · exact absurd ha z
  · have s2 := h2.same (n := n) (fun i h1 h2 => by unfold inS; omega)
    exact ⟨x, rfl, h1, h2, s2, s2.ok ok, h2.R hR, by rw [s2.V]; exact h3⟩
theorem p_round {h : Hp} {s : St} {N : Int} (I : CInv h s) (hk : I32 N) : Ev mX7_round 4 0 (entL [.ref 0, iv N] 4) [] h (PA (aRound s N)) := by
  show Ev mX7_round 4 0 [some (.ref 0), some (iv N), none, none] [] h _
  have I' := I
  obtain ⟨hR, ⟨n, d, hnd, hN, hD, ok, hV⟩, hT, hP⟩ := I
  have hn : isNet n := by omega
  have hn2 : n < 45 := by omega
  have h7 : isShp 7 := Or.inl rfl
  have i1 : I32 1 := ⟨by omega, by omega⟩
  have i5 : I32 20 := ⟨by omega, by omega⟩
  have LOOP : 1 ≤ N ∧ N ≤ 20 → aH (sV s) (hgV (sV s)) → ∀ g0, Fr inPs h g0 → PastOk g0 (if sK s < 6 then sK s + 1 else 6) (fun t => if t = 0 then sV s else sP s (t - 1)) → ∀ (m i : Nat) (g : Hp), N.toNat - i = m → i ≤ N.toNat → Fr (fun j => inN n j ∨ inS 7 j) g0 g → NOk g n → cV g n = itr (sV s) i → Ev mX7_round 4 40 [some (.ref 0), some (iv N), some (iv (rndC (sV s) i)), some (iv (i : Int))] [] g (PA (rndC (sV s) N.toNat, psh s (itr (sV s) N.toNat))) := by
    intro hN20 ha g0 hF0 hp0 m
    induction m using Nat.strongRecOn with
    | ind m ih =>
      intro i g hm hi hF okg ev
      have hRg : ROk g.2.2 := hF.R (hF0.R hR)
      have hNg : g.2.2 0 6 = n := by rw [hF.2.2, hF0.2.2]; exact hN
      have hai : aH (cV g n) (hgV (cV g n)) := by rw [ev]; exact aH_itr ha i
      by_cases hi2 : i < N.toNat
      · have hR := hRg
        refine Ev.iload_n dX7_round_40 (Eq.refl 41) rfl ?_
        refine Ev.iload_n dX7_round_41 (Eq.refl 42) rfl ?_
        refine Ev.icmp_ge (tgt := 85) dX7_round_42 (Eq.refl 45) (by decide) ⟨by omega, by omega⟩ ⟨by omega, by omega⟩ (fun c42 => ?_) (fun c42 => ?_)
        · omega
        · refine Ev.aload_n dX7_round_45 (Eq.refl 46) rfl ?_
          refine Ev.getR dX7_round_46 (Eq.refl 49) fg_X7_33 rfl rfl (rX7_3 hR) ?_
          refine Ev.aload_n dX7_round_49 (Eq.refl 50) rfl ?_
          refine Ev.getR dX7_round_50 (Eq.refl 53) fg_X7_54 rfl rfl hNg ?_
          refine Ev.cv1I dX7_round_53 (Eq.refl 56) cw_X7_144 (Nat.le_of_ble_eq_true rfl) (by decide) (lyS0 (by assumption)) rfl rfl (Nat.le_of_ble_eq_true rfl) (c_find1 hR hn h7 okg hai) (fun x53 g53 hp53 => ?_)
          obtain ⟨rfl, hF2, s2, ok2, hR2, so⟩ := hp53
          have hR := hR2
          have hNg : g53.2.2 0 6 = n := by rw [hF2.2.2]; exact hNg
          refine Ev.if_eq (tgt := 79) dX7_round_56 (Eq.refl 59) (by decide) ⟨by omega, by omega⟩ (fun c56 => ?_) (fun c56 => ?_)
          · omega
          · refine Ev.aload_n dX7_round_59 (Eq.refl 60) rfl ?_
            refine Ev.getR dX7_round_60 (Eq.refl 63) fg_X7_54 rfl rfl hNg ?_
            refine Ev.aload_n dX7_round_63 (Eq.refl 64) rfl ?_
            refine Ev.getR dX7_round_64 (Eq.refl 67) fg_X7_33 rfl rfl (rX7_3 hR) ?_
            refine Ev.getR dX7_round_67 (Eq.refl 70) fg_X7_148 (lyS0 (by assumption)) rfl (rS3 hR (by assumption)) ?_
            refine Ev.cv1I dX7_round_70 (Eq.refl 73) cw_X7_151 (Nat.le_of_ble_eq_true rfl) (by decide) (lyN0 (by assumption)) rfl rfl (Nat.le_of_ble_eq_true rfl) (c_tellDensR (s := 7) hR hn h7 ok2 so) (fun x70 g70 hp70 => ?_)
            obtain ⟨hF3, ev3, ok3, hx⟩ := hp70
            rw [s2.V, ev] at ev3 hx
            have b01 := bi01 (chg (itr (sV s) i))
            have hF4 : Fr (fun j => inN n j ∨ inS 7 j) g0 g70 := (hF.tr (U := fun j => inN n j ∨ inS 7 j) hF2 (fun _ z => z) (fun _ z => Or.inr z)).tr hF3 (fun _ z => z) (fun _ z => Or.inl z)
            refine Ev.if_eq (tgt := 79) dX7_round_73 (Eq.refl 76) (by decide) ⟨by omega, by omega⟩ (fun c73 => ?_) (fun c73 => ?_)
            · have er : rndC (sV s) (i + 1) = rndC (sV s) i := by show _ + bi (chg (itr (sV s) i)) = _; rw [← hx, c73, Int.add_zero]; rfl
              refine Ev.ii3 dX7_round_79 (Eq.refl 82) (by decide) rfl ?_
              refine Ev.goto' (pc' := 40) dX7_round_82 (by decide) ?_
              have L := ih _ (by omega) (i + 1) _ rfl (by omega) hF4 ok3 ev3
              rw [er] at L
              exact L
            · have er : rndC (sV s) (i + 1) = rndC (sV s) i + 1 := by show _ + bi (chg (itr (sV s) i)) = _; rw [← hx, show x70 = 1 by omega]; rfl
              refine Ev.ii2 dX7_round_76 (Eq.refl 79) (by decide) rfl ?_
              refine Ev.ii3 dX7_round_79 (Eq.refl 82) (by decide) rfl ?_
              refine Ev.goto' (pc' := 40) dX7_round_82 (by decide) ?_
              have L := ih _ (by omega) (i + 1) _ rfl (by omega) hF4 ok3 ev3
              rw [er] at L
              exact L
      · have e : i = N.toNat := by omega
        refine Ev.iload_n dX7_round_40 (Eq.refl 41) rfl ?_
        refine Ev.iload_n dX7_round_41 (Eq.refl 42) rfl ?_
        refine Ev.icmp_ge (tgt := 85) dX7_round_42 (Eq.refl 45) (by decide) ⟨by omega, by omega⟩ ⟨by omega, by omega⟩ (fun c42 => ?_) (fun c42 => ?_)
        · refine Ev.iload_n dX7_round_85 (Eq.refl 86) rfl ?_
          exact Ev.iret dX7_round_86 rfl ((by exact ⟨_, rfl, by rw [e], CInv.ch2 hR hnd hN hD hT hF0 hp0 hF (fun j z => by rcases z with z | z; exact Or.inl z; exact Or.inr (by unfold inS at z; unfold inQ; omega)) (by rw [← e]; exact ev) okg⟩))
        · omega
  refine Ev.iload_n dX7_round_0 (Eq.refl 1) rfl ?_
  refine Ev.iconst dX7_round_1 (Eq.refl 2) ?_
  refine Ev.bipush dX7_round_2 (Eq.refl 4) (by decide) ?_
  refine Ev.cs3E dX7_round_4 (Eq.refl 7) cw_X7_85 (Nat.le_of_ble_eq_true rfl) (by decide) rfl (Nat.le_of_ble_eq_true rfl) (c_isWithin (by assumption) (by assumption) (by assumption)) ?_
  refine Ev.if_neB (tgt := 12) dX7_round_7 (Eq.refl 10) (by decide) (fun c7 => ?_) (fun c7 => ?_)
  · refine Ev.aload_n dX7_round_12 (Eq.refl 13) rfl ?_
    refine Ev.getR dX7_round_13 (Eq.refl 16) fg_X7_54 rfl rfl hN ?_
    refine Ev.cv0E dX7_round_16 (Eq.refl 19) cw_X7_140 (Nat.le_of_ble_eq_true rfl) (by decide) (lyN0 (by assumption)) rfl rfl (Nat.le_of_ble_eq_true rfl) (c_allHung hR (by assumption) (by assumption)) ?_
    rw [hV]
    refine Ev.if_neB (tgt := 25) dX7_round_19 (Eq.refl 22) (by decide) (fun c19 => ?_) (fun c19 => ?_)
    · have e : aRound s N = (rndC (sV s) N.toNat, psh s (itr (sV s) N.toNat)) := (if_pos c7).trans (cif_t c19)
      refine Ev.aload_n dX7_round_25 (Eq.refl 26) rfl ?_
      refine Ev.getR dX7_round_26 (Eq.refl 29) fg_X7_26 rfl rfl (rX7_2 hR) ?_
      refine Ev.aload_n dX7_round_29 (Eq.refl 30) rfl ?_
      refine Ev.getR dX7_round_30 (Eq.refl 33) fg_X7_54 rfl rfl hN ?_
      refine Ev.cv1V dX7_round_33 (Eq.refl 36) cw_X7_103 (Nat.le_of_ble_eq_true rfl) (by decide) rfl rfl rfl (Nat.le_of_ble_eq_true rfl) (c_keep hR (by assumption) (by assumption) (by assumption) (by assumption)) (fun g33 hp33 => ?_)
      obtain ⟨hF, hp⟩ := hp33
      rw [hV] at hp
      have sm' := hF.same (n := n) (fun i h1 h2 => by unfold inPs; omega)
      refine Ev.iconst dX7_round_36 (Eq.refl 37) ?_
      refine Ev.is2 dX7_round_37 (Eq.refl 38) (by decide) rfl ?_
      refine Ev.iconst dX7_round_38 (Eq.refl 39) ?_
      refine Ev.is3 dX7_round_39 (Eq.refl 40) (by decide) rfl ?_
      rw [e]
      exact LOOP c7 c19 _ hF hp _ 0 _ rfl (by omega) Fr.rf (sm'.ok ok) (sm'.V.trans hV)
    · have e : aRound s N = (-2, s) := (if_pos c7).trans (cif_f c19)
      refine Ev.bipush dX7_round_22 (Eq.refl 24) (by decide) ?_
      exact Ev.iret dX7_round_24 rfl ((by rw [e]; exact ⟨_, rfl, rfl, I'⟩))
  · have e : aRound s N = (-1, s) := if_neg c7
    refine Ev.iconst dX7_round_10 (Eq.refl 11) ?_
    exact Ev.iret dX7_round_11 rfl ((by rw [e]; exact ⟨_, rfl, rfl, I'⟩))
theorem p_undo {h : Hp} {s : St} (I : CInv h s) : Ev mX7_undo 3 0 (entL [.ref 0] 1) [] h (PA (aUndo s)) := by
  show Ev mX7_undo 3 0 [some (.ref 0)] [] h _
  have I' := I
  obtain ⟨hR, ⟨n, d, hnd, hN, hD, ok, hV⟩, hT, hP⟩ := I
  have hn : isNet n := by omega
  have hn2 : n < 45 := by omega
  by_cases k0 : sK s = 0
  · have e : aUndo s = (-2, s) := if_pos k0
    refine Ev.aload_n dX7_undo_0 (Eq.refl 1) rfl ?_
    refine Ev.getR dX7_undo_1 (Eq.refl 4) fg_X7_26 rfl rfl (rX7_2 hR) ?_
    refine Ev.aload_n dX7_undo_4 (Eq.refl 5) rfl ?_
    refine Ev.getR dX7_undo_5 (Eq.refl 8) fg_X7_54 rfl rfl hN ?_
    refine Ev.cv1I dX7_undo_8 (Eq.refl 11) cw_X7_155 (Nat.le_of_ble_eq_true rfl) (by decide) rfl rfl rfl (Nat.le_of_ble_eq_true rfl) (c_giveBack hR (by assumption) (by assumption) (by assumption)) (fun x8 g8 hp8 => ?_)
    obtain ⟨_, rfl, rfl⟩ : sK s = 0 ∧ x8 = 0 ∧ g8 = h := (by rcases hp8 with z | ⟨z, _⟩; exact z; omega)
    refine Ev.if_eq (tgt := 24) dX7_undo_11 (Eq.refl 14) (by decide) ⟨by omega, by omega⟩ (fun c11 => ?_) (fun c11 => ?_)
    · refine Ev.bipush dX7_undo_24 (Eq.refl 26) (by decide) ?_
      exact Ev.iret dX7_undo_26 rfl ((by rw [e]; exact ⟨_, rfl, rfl, I'⟩))
    · omega
  · have e : aUndo s = ((sK s : Int) - 1, (sT s, sL s, sP s 0, sK s - 1, fun t => sP s (t + 1))) := if_neg k0
    refine Ev.aload_n dX7_undo_0 (Eq.refl 1) rfl ?_
    refine Ev.getR dX7_undo_1 (Eq.refl 4) fg_X7_26 rfl rfl (rX7_2 hR) ?_
    refine Ev.aload_n dX7_undo_4 (Eq.refl 5) rfl ?_
    refine Ev.getR dX7_undo_5 (Eq.refl 8) fg_X7_54 rfl rfl hN ?_
    refine Ev.cv1I dX7_undo_8 (Eq.refl 11) cw_X7_155 (Nat.le_of_ble_eq_true rfl) (by decide) rfl rfl rfl (Nat.le_of_ble_eq_true rfl) (c_giveBack hR (by assumption) (by assumption) (by assumption)) (fun x8 g8 hp8 => ?_)
    rcases hp8 with ⟨z, _⟩ | ⟨_, rfl, hF, hp, ev, okg⟩
    · omega
    have hR2 := hF.R hR
    have kk : g8.1 5 2 = ((sK s - 1 : Nat) : Int) := by obtain ⟨_, _, _, z, _⟩ := hp; exact z
    refine Ev.if_eq (tgt := 24) dX7_undo_11 (Eq.refl 14) (by decide) ⟨by omega, by omega⟩ (fun c11 => ?_) (fun c11 => ?_)
    · omega
    · refine Ev.aload_n dX7_undo_14 (Eq.refl 15) rfl ?_
      refine Ev.getR dX7_undo_15 (Eq.refl 18) fg_X7_26 rfl rfl (rX7_2 hR2) ?_
      refine Ev.getI dX7_undo_18 (Eq.refl 21) fg_X7_92 rfl rfl ?_
      rw [kk]
      refine Ev.goto' (pc' := 26) dX7_undo_21 (by decide) ?_
      exact Ev.iret dX7_undo_26 rfl ((by rw [e]; exact ⟨_, rfl, by show ((sK s - 1 : Nat) : Int) = _; omega, hR2, ⟨n, d, hnd, by rw [hF.2.2]; exact hN, by rw [hF.2.2]; exact hD, okg, ev⟩, hT.fr hF (by unfold inN; omega) (by unfold inN; omega), hp⟩))
theorem CInv.q {S : Nat → Prop} {h g : Hp} {s : St} (I : CInv h s) (hF : Fr S h g) (hS : ∀ i, S i → inQ i) : CInv g s := by
  obtain ⟨hR, ⟨n, d, hnd, hN, hD, ok, hV⟩, hT, hP⟩ := I
  exact CInv.fr hF hR hnd hN hD ok hV hT hP (fun i z => Or.inl (hS i z))
theorem inS7 : ∀ i, inS 7 i → inQ i := fun i z => by unfold inS at z; unfold inQ; omega
theorem p_slack {h : Hp} {s : St} (I : CInv h s) : Ev mX7_slack 4 0 (entL [.ref 0] 1) [] h (PA (aSlack s)) := by
  show Ev mX7_slack 4 0 [some (.ref 0)] [] h _
  have I' := I
  obtain ⟨hR, ⟨n, d, hnd, hN, hD, ok, hV⟩, hT, hP⟩ := I
  have hn : isNet n := by omega
  have h7 : isShp 7 := Or.inl rfl
  by_cases ha : aH (cV h n) (hgV (cV h n))
  · have e : aSlack s = (_, s) := Prod.ext (cif_t (by rw [← hV]; exact ha)) rfl
    refine Ev.aload_n dX7_slack_0 (Eq.refl 1) rfl ?_
    refine Ev.getR dX7_slack_1 (Eq.refl 4) fg_X7_33 rfl rfl (rX7_3 hR) ?_
    refine Ev.aload_n dX7_slack_4 (Eq.refl 5) rfl ?_
    refine Ev.getR dX7_slack_5 (Eq.refl 8) fg_X7_54 rfl rfl hN ?_
    refine Ev.cv1I dX7_slack_8 (Eq.refl 11) cw_X7_144 (Nat.le_of_ble_eq_true rfl) (by decide) (lyS0 (by assumption)) rfl rfl (Nat.le_of_ble_eq_true rfl) (c_find1 hR hn h7 ok ha) (fun x8 g8 hp8 => ?_)
    obtain ⟨rfl, hF2, s2, ok2, hR2, so⟩ := hp8
    have hR := hR2
    have hN : g8.2.2 0 6 = n := by rw [hF2.2.2]; exact hN
    refine Ev.if_eq (tgt := 28) dX7_slack_11 (Eq.refl 14) (by decide) ⟨by omega, by omega⟩ (fun c11 => ?_) (fun c11 => ?_)
    · omega
    · refine Ev.aload_n dX7_slack_14 (Eq.refl 15) rfl ?_
      refine Ev.getR dX7_slack_15 (Eq.refl 18) fg_X7_33 rfl rfl (rX7_3 hR) ?_
      refine Ev.aload_n dX7_slack_18 (Eq.refl 19) rfl ?_
      refine Ev.getR dX7_slack_19 (Eq.refl 22) fg_X7_54 rfl rfl hN ?_
      refine Ev.cv1I dX7_slack_22 (Eq.refl 25) cw_X7_216 (Nat.le_of_ble_eq_true rfl) (by decide) (lyS0 (by assumption)) rfl rfl (Nat.le_of_ble_eq_true rfl) (c_slack hR (by assumption) (by assumption) (by assumption) (by assumption)) (fun x22 g22 hp22 => ?_)
      obtain ⟨rfl, hx⟩ := hp22
      rw [s2.V, hV] at hx
      refine Ev.goto' (pc' := 30) dX7_slack_25 (by decide) ?_
      exact Ev.iret dX7_slack_30 rfl ((by rw [e]; exact ⟨_, rfl, (bits_of hx.1 hx.2.2).symm, I'.q hF2 inS7⟩))
  · have e : aSlack s = (-2, s) := Prod.ext (cif_f (by rw [← hV]; exact ha)) rfl
    refine Ev.aload_n dX7_slack_0 (Eq.refl 1) rfl ?_
    refine Ev.getR dX7_slack_1 (Eq.refl 4) fg_X7_33 rfl rfl (rX7_3 hR) ?_
    refine Ev.aload_n dX7_slack_4 (Eq.refl 5) rfl ?_
    refine Ev.getR dX7_slack_5 (Eq.refl 8) fg_X7_54 rfl rfl hN ?_
    refine Ev.cv1I dX7_slack_8 (Eq.refl 11) cw_X7_144 (Nat.le_of_ble_eq_true rfl) (by decide) (lyS0 (by assumption)) rfl rfl (Nat.le_of_ble_eq_true rfl) (c_find0 hR hn h7 ok ha) (fun x8 g8 hp8 => ?_)
    obtain ⟨rfl, rfl⟩ := hp8
    refine Ev.if_eq (tgt := 28) dX7_slack_11 (Eq.refl 14) (by decide) ⟨by omega, by omega⟩ (fun c11 => ?_) (fun c11 => ?_)
    · refine Ev.bipush dX7_slack_28 (Eq.refl 30) (by decide) ?_
      exact Ev.iret dX7_slack_30 rfl ((by rw [e]; exact ⟨_, rfl, rfl, I'⟩))
    · omega
theorem p_miss {h : Hp} {s : St} (I : CInv h s) : Ev mX7_miss 4 0 (entL [.ref 0] 1) [] h (PA (aMiss s)) := by
  show Ev mX7_miss 4 0 [some (.ref 0)] [] h _
  have I' := I
  obtain ⟨hR, ⟨n, d, hnd, hN, hD, ok, hV⟩, hT, hP⟩ := I
  have hn : isNet n := by omega
  have h7 : isShp 7 := Or.inl rfl
  by_cases ha : aH (cV h n) (hgV (cV h n))
  · have e : aMiss s = (_, s) := Prod.ext (cif_t (by rw [← hV]; exact ha)) rfl
    refine Ev.aload_n dX7_miss_0 (Eq.refl 1) rfl ?_
    refine Ev.getR dX7_miss_1 (Eq.refl 4) fg_X7_33 rfl rfl (rX7_3 hR) ?_
    refine Ev.aload_n dX7_miss_4 (Eq.refl 5) rfl ?_
    refine Ev.getR dX7_miss_5 (Eq.refl 8) fg_X7_54 rfl rfl hN ?_
    refine Ev.cv1I dX7_miss_8 (Eq.refl 11) cw_X7_144 (Nat.le_of_ble_eq_true rfl) (by decide) (lyS0 (by assumption)) rfl rfl (Nat.le_of_ble_eq_true rfl) (c_find1 hR hn h7 ok ha) (fun x8 g8 hp8 => ?_)
    obtain ⟨rfl, hF2, s2, ok2, hR2, so⟩ := hp8
    have hR := hR2
    have hN : g8.2.2 0 6 = n := by rw [hF2.2.2]; exact hN
    refine Ev.if_eq (tgt := 28) dX7_miss_11 (Eq.refl 14) (by decide) ⟨by omega, by omega⟩ (fun c11 => ?_) (fun c11 => ?_)
    · omega
    · refine Ev.aload_n dX7_miss_14 (Eq.refl 15) rfl ?_
      refine Ev.getR dX7_miss_15 (Eq.refl 18) fg_X7_33 rfl rfl (rX7_3 hR) ?_
      refine Ev.aload_n dX7_miss_18 (Eq.refl 19) rfl ?_
      refine Ev.getR dX7_miss_19 (Eq.refl 22) fg_X7_54 rfl rfl hN ?_
      refine Ev.cv1E dX7_miss_22 (Eq.refl 25) cw_X7_220 (Nat.le_of_ble_eq_true rfl) (by decide) (lyS0 (by assumption)) rfl rfl (Nat.le_of_ble_eq_true rfl) (c_missed hR (by assumption) (by assumption) (by assumption) (by assumption)) ?_
      rw [s2.V, hV]
      refine Ev.goto' (pc' := 30) dX7_miss_25 (by decide) ?_
      exact Ev.iret dX7_miss_30 rfl ((by rw [e]; exact ⟨_, rfl, rfl, I'.q hF2 inS7⟩))
  · have e : aMiss s = (-2, s) := Prod.ext (cif_f (by rw [← hV]; exact ha)) rfl
    refine Ev.aload_n dX7_miss_0 (Eq.refl 1) rfl ?_
    refine Ev.getR dX7_miss_1 (Eq.refl 4) fg_X7_33 rfl rfl (rX7_3 hR) ?_
    refine Ev.aload_n dX7_miss_4 (Eq.refl 5) rfl ?_
    refine Ev.getR dX7_miss_5 (Eq.refl 8) fg_X7_54 rfl rfl hN ?_
    refine Ev.cv1I dX7_miss_8 (Eq.refl 11) cw_X7_144 (Nat.le_of_ble_eq_true rfl) (by decide) (lyS0 (by assumption)) rfl rfl (Nat.le_of_ble_eq_true rfl) (c_find0 hR hn h7 ok ha) (fun x8 g8 hp8 => ?_)
    obtain ⟨rfl, rfl⟩ := hp8
    refine Ev.if_eq (tgt := 28) dX7_miss_11 (Eq.refl 14) (by decide) ⟨by omega, by omega⟩ (fun c11 => ?_) (fun c11 => ?_)
    · refine Ev.bipush dX7_miss_28 (Eq.refl 30) (by decide) ?_
      exact Ev.iret dX7_miss_30 rfl ((by rw [e]; exact ⟨_, rfl, rfl, I'⟩))
    · omega
theorem inTQ : ∀ i, inT i → inQ i := fun i z => by unfold inT inN inS at z; unfold inQ; omega
theorem p_settle {h : Hp} {s : St} {w : Int} (I : CInv h s) (hw : I32 w) : Ev mX7_settle 5 0 (entL [.ref 0, iv w] 2) [] h (PA (aSettle s w)) := by
  show Ev mX7_settle 5 0 [some (.ref 0), some (iv w)] [] h _
  have I' := I
  obtain ⟨hR, ⟨n, d, hnd, hN, hD, ok, hV⟩, hT, hP⟩ := I
  have hn : isNet n := by omega
  have hn3 : n ≠ 38 := by omega
  have i1 : I32 0 := ⟨by omega, by omega⟩
  have i5 : I32 1 := ⟨by omega, by omega⟩
  refine Ev.iload_n dX7_settle_0 (Eq.refl 1) rfl ?_
  refine Ev.iconst dX7_settle_1 (Eq.refl 2) ?_
  refine Ev.iconst dX7_settle_2 (Eq.refl 3) ?_
  refine Ev.cs3E dX7_settle_3 (Eq.refl 6) cw_X7_85 (Nat.le_of_ble_eq_true rfl) (by decide) rfl (Nat.le_of_ble_eq_true rfl) (c_isWithin (by assumption) (by assumption) (by assumption)) ?_
  refine Ev.if_neB (tgt := 11) dX7_settle_6 (Eq.refl 9) (by decide) (fun c6 => ?_) (fun c6 => ?_)
  · refine Ev.aload_n dX7_settle_11 (Eq.refl 12) rfl ?_
    refine Ev.getR dX7_settle_12 (Eq.refl 15) fg_X7_54 rfl rfl hN ?_
    refine Ev.cv0E dX7_settle_15 (Eq.refl 18) cw_X7_140 (Nat.le_of_ble_eq_true rfl) (by decide) (lyN0 (by assumption)) rfl rfl (Nat.le_of_ble_eq_true rfl) (c_allHung hR (by assumption) (by assumption)) ?_
    refine Ev.if_neB (tgt := 24) dX7_settle_18 (Eq.refl 21) (by decide) (fun c18 => ?_) (fun c18 => ?_)
    · have e : aSettle s w = (setl (sV s) w, s) := Prod.ext ((if_pos c6).trans (cif_t (by rw [← hV]; exact c18))) rfl
      refine Ev.aload_n dX7_settle_24 (Eq.refl 25) rfl ?_
      refine Ev.getR dX7_settle_25 (Eq.refl 28) fg_X7_40 rfl rfl (rX7_4 hR) ?_
      refine Ev.aload_n dX7_settle_28 (Eq.refl 29) rfl ?_
      refine Ev.getR dX7_settle_29 (Eq.refl 32) fg_X7_54 rfl rfl hN ?_
      refine Ev.cv1I dX7_settle_32 (Eq.refl 35) cw_X7_223 (Nat.le_of_ble_eq_true rfl) (by decide) rfl rfl rfl (Nat.le_of_ble_eq_true rfl) (c_seekRest hR (by assumption) (by assumption) (by assumption) (by assumption)) (fun x32 g32 hp32 => ?_)
      obtain ⟨hF, hx⟩ := hp32
      rw [hV] at hx
      have bk := I'.q hF inTQ
      have hR2 := hF.R hR
      have x01 : x32 = 0 ∨ x32 = 1 := by rcases hx with ⟨_, _, _, _, z, _⟩ | ⟨_, z⟩; exact Or.inr z; exact Or.inl z
      refine Ev.if_ne (tgt := 41) dX7_settle_35 (Eq.refl 38) (by decide) ⟨by omega, by omega⟩ (fun c35 => ?_) (fun c35 => ?_)
      · obtain ⟨i, hi, j1, j2, _, a2, a3⟩ : ∃ i : Nat, i ≤ 60 ∧ (∀ t, t < i → chg (itr (sV s) t)) ∧ ¬ chg (itr (sV s) i) ∧ x32 = 1 ∧ g32.1 17 2 = (i : Int) ∧ g32.1 17 3 = missV (itr (sV s) i) := (by rcases hx with z | ⟨_, z⟩; exact z; omega)
        have e2 := setl_i (w := w) hi j1 j2
        refine Ev.iload_n dX7_settle_41 (Eq.refl 42) rfl ?_
        refine Ev.if_ne (tgt := 55) dX7_settle_42 (Eq.refl 45) (by decide) ⟨by omega, by omega⟩ (fun c42 => ?_) (fun c42 => ?_)
        · refine Ev.aload_n dX7_settle_55 (Eq.refl 56) rfl ?_
          refine Ev.getR dX7_settle_56 (Eq.refl 59) fg_X7_40 rfl rfl (rX7_4 hR2) ?_
          refine Ev.getI dX7_settle_59 (Eq.refl 62) fg_X7_229 rfl rfl ?_
          exact Ev.iret dX7_settle_62 rfl ((by rw [e, e2]; first | exact ⟨_, rfl, a2.trans (if_pos c42).symm, bk⟩ | exact ⟨_, rfl, a3.trans (if_neg c42).symm, bk⟩))
        · refine Ev.aload_n dX7_settle_45 (Eq.refl 46) rfl ?_
          refine Ev.getR dX7_settle_46 (Eq.refl 49) fg_X7_40 rfl rfl (rX7_4 hR2) ?_
          refine Ev.getI dX7_settle_49 (Eq.refl 52) fg_X7_226 rfl rfl ?_
          refine Ev.goto' (pc' := 62) dX7_settle_52 (by decide) ?_
          exact Ev.iret dX7_settle_62 rfl ((by rw [e, e2]; first | exact ⟨_, rfl, a2.trans (if_pos c42).symm, bk⟩ | exact ⟨_, rfl, a3.trans (if_neg c42).symm, bk⟩))
      · have e2 : setl (sV s) w = -4 := (by rcases hx with ⟨_, _, _, _, z, _⟩ | ⟨z, _⟩; omega; exact cif_t z)
        refine Ev.bipush dX7_settle_38 (Eq.refl 40) (by decide) ?_
        exact Ev.iret dX7_settle_40 rfl ((by rw [e, e2]; exact ⟨_, rfl, rfl, bk⟩))
    · have e : aSettle s w = (-2, s) := Prod.ext ((if_pos c6).trans (cif_f (by rw [← hV]; exact c18))) rfl
      refine Ev.bipush dX7_settle_21 (Eq.refl 23) (by decide) ?_
      exact Ev.iret dX7_settle_23 rfl ((by rw [e]; exact ⟨_, rfl, rfl, I'⟩))
  · have e : aSettle s w = (-1, s) := Prod.ext (if_neg c6) rfl
    refine Ev.iconst dX7_settle_9 (Eq.refl 10) ?_
    exact Ev.iret dX7_settle_10 rfl ((by rw [e]; exact ⟨_, rfl, rfl, I'⟩))
theorem p_better {h : Hp} {s : St} {w : Int} (I : CInv h s) (hw : I32 w) : Ev mX7_better 6 0 (entL [.ref 0, iv w] 2) [] h (PA (aBetter s w)) := by
  show Ev mX7_better 6 0 [some (.ref 0), some (iv w)] [] h _
  have I' := I
  obtain ⟨hR, ⟨n, d, hnd, hN, hD, ok, hV⟩, hT, hP⟩ := I
  have hn : isNet n := by omega
  have hn3 : n ≠ 38 := by omega
  have i1 : I32 0 := ⟨by omega, by omega⟩
  have i5 : I32 1 := ⟨by omega, by omega⟩
  refine Ev.iload_n dX7_better_0 (Eq.refl 1) rfl ?_
  refine Ev.iconst dX7_better_1 (Eq.refl 2) ?_
  refine Ev.iconst dX7_better_2 (Eq.refl 3) ?_
  refine Ev.cs3E dX7_better_3 (Eq.refl 6) cw_X7_85 (Nat.le_of_ble_eq_true rfl) (by decide) rfl (Nat.le_of_ble_eq_true rfl) (c_isWithin (by assumption) (by assumption) (by assumption)) ?_
  refine Ev.if_neB (tgt := 11) dX7_better_6 (Eq.refl 9) (by decide) (fun c6 => ?_) (fun c6 => ?_)
  · refine Ev.aload_n dX7_better_11 (Eq.refl 12) rfl ?_
    refine Ev.getR dX7_better_12 (Eq.refl 15) fg_X7_54 rfl rfl hN ?_
    refine Ev.cv0E dX7_better_15 (Eq.refl 18) cw_X7_140 (Nat.le_of_ble_eq_true rfl) (by decide) (lyN0 (by assumption)) rfl rfl (Nat.le_of_ble_eq_true rfl) (c_allHung hR (by assumption) (by assumption)) ?_
    refine Ev.if_neB (tgt := 24) dX7_better_18 (Eq.refl 21) (by decide) (fun c18 => ?_) (fun c18 => ?_)
    · have e : aBetter s w = (if (tAl (sV s) (vS (sV s))).2 = -4 then -4 else if w = 0 then (tAl (sV s) (vS (sV s))).2 else (tAl (sV s) (vS (sV s))).1, s) := Prod.ext ((if_pos c6).trans (cif_t (by rw [← hV]; exact c18))) rfl
      refine Ev.aload_n dX7_better_24 (Eq.refl 25) rfl ?_
      refine Ev.getR dX7_better_25 (Eq.refl 28) fg_X7_40 rfl rfl (rX7_4 hR) ?_
      refine Ev.aload_n dX7_better_28 (Eq.refl 29) rfl ?_
      refine Ev.getR dX7_better_29 (Eq.refl 32) fg_X7_54 rfl rfl hN ?_
      refine Ev.cv1I dX7_better_32 (Eq.refl 35) cw_X7_231 (Nat.le_of_ble_eq_true rfl) (by decide) rfl rfl rfl (Nat.le_of_ble_eq_true rfl) (c_seekBetter hR (by assumption) (by assumption) (by assumption) (by assumption)) (fun x32 g32 hp32 => ?_)
      obtain ⟨hF, a3, a2, hx⟩ := hp32
      rw [hV] at a3 a2 hx
      have bk := I'.q hF inTQ
      have hR2 := hF.R hR
      have x01 := bi01 ((tAl (sV s) (vS (sV s))).2 ≠ -4)
      refine Ev.if_ne (tgt := 41) dX7_better_35 (Eq.refl 38) (by decide) ⟨by omega, by omega⟩ (fun c35 => ?_) (fun c35 => ?_)
      · have e2 : ¬ (tAl (sV s) (vS (sV s))).2 = -4 := fun z => c35 (hx.trans (bi_f (fun w => w z)))
        refine Ev.iload_n dX7_better_41 (Eq.refl 42) rfl ?_
        refine Ev.if_ne (tgt := 55) dX7_better_42 (Eq.refl 45) (by decide) ⟨by omega, by omega⟩ (fun c42 => ?_) (fun c42 => ?_)
        · refine Ev.aload_n dX7_better_55 (Eq.refl 56) rfl ?_
          refine Ev.getR dX7_better_56 (Eq.refl 59) fg_X7_40 rfl rfl (rX7_4 hR2) ?_
          refine Ev.getI dX7_better_59 (Eq.refl 62) fg_X7_229 rfl rfl ?_
          exact Ev.iret dX7_better_62 rfl ((by rw [e, if_neg e2]; first | exact ⟨_, rfl, a2.trans (if_pos c42).symm, bk⟩ | exact ⟨_, rfl, a3.trans (if_neg c42).symm, bk⟩))
        · refine Ev.aload_n dX7_better_45 (Eq.refl 46) rfl ?_
          refine Ev.getR dX7_better_46 (Eq.refl 49) fg_X7_40 rfl rfl (rX7_4 hR2) ?_
          refine Ev.getI dX7_better_49 (Eq.refl 52) fg_X7_226 rfl rfl ?_
          refine Ev.goto' (pc' := 62) dX7_better_52 (by decide) ?_
          exact Ev.iret dX7_better_62 rfl ((by rw [e, if_neg e2]; first | exact ⟨_, rfl, a2.trans (if_pos c42).symm, bk⟩ | exact ⟨_, rfl, a3.trans (if_neg c42).symm, bk⟩))
      · have e2 : (tAl (sV s) (vS (sV s))).2 = -4 := Classical.byContradiction fun z => by rw [bi_t z] at hx; omega
        refine Ev.bipush dX7_better_38 (Eq.refl 40) (by decide) ?_
        exact Ev.iret dX7_better_40 rfl ((by rw [e, if_pos e2]; exact ⟨_, rfl, rfl, bk⟩))
    · have e : aBetter s w = (-2, s) := Prod.ext ((if_pos c6).trans (cif_f (by rw [← hV]; exact c18))) rfl
      refine Ev.bipush dX7_better_21 (Eq.refl 23) (by decide) ?_
      exact Ev.iret dX7_better_23 rfl ((by rw [e]; exact ⟨_, rfl, rfl, I'⟩))
  · have e : aBetter s w = (-1, s) := Prod.ext (if_neg c6) rfl
    refine Ev.iconst dX7_better_9 (Eq.refl 10) ?_
    exact Ev.iret dX7_better_10 rfl ((by rw [e]; exact ⟨_, rfl, rfl, I'⟩))
