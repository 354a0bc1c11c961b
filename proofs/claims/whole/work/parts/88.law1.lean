/-! What the law knows at its start; the words of its calls: by program (wip/whole/mk_law1.py). -/
theorem inL1 {w : Cond} (i : Nat) (h : tables_1_1[i]? = some w) : w ∈ lw_tbl := List.mem_append_right _ (List.mem_append_left _ (List.mem_of_getElem? h))
theorem inL2 {w : Cond} (i : Nat) (h : tables_1_2[i]? = some w) : w ∈ lw_tbl := List.mem_append_right _ (List.mem_append_right _ (List.mem_append_left _ (List.mem_of_getElem? h)))
theorem inL3 {w : Cond} (i : Nat) (h : tables_1_3[i]? = some w) : w ∈ lw_tbl := List.mem_append_right _ (List.mem_append_right _ (List.mem_append_right _ (List.mem_append_left _ (List.mem_of_getElem? h))))
theorem inL4 {w : Cond} (i : Nat) (h : tables_1_4[i]? = some w) : w ∈ lw_tbl := List.mem_append_right _ (List.mem_append_right _ (List.mem_append_right _ (List.mem_append_right _ (List.mem_append_left _ (List.mem_of_getElem? h)))))
theorem inL5 {w : Cond} (i : Nat) (h : tables_1_5[i]? = some w) : w ∈ lw_tbl := List.mem_append_right _ (List.mem_append_right _ (List.mem_append_right _ (List.mem_append_right _ (List.mem_append_right _ (List.mem_of_getElem? h)))))
theorem arr_K {s : State} {ty : FieldType} {c comp : ClassId} {k : Class} (h2 : s.vm.classes[c]? = some k) (h3 : k.kind = .array comp ty) (hr : va_RA s c ty) : ArrOfT s c ty ∧ va_RA s c ty := ⟨fun N z => ⟨(fun k h => by cases h), k, h2, comp, h3⟩, hr⟩
theorem start_arr {args : Array Value} {s : State} {ty : FieldType} (h : (Cond.arrayClass ty).before args s = true) (hp : ∀ C, ty ≠ .object C) : ∃ c : ClassId, ArrOfT s c ty ∧ va_RA s c ty := by
  obtain ⟨c, k, comp, h1, h2, h3⟩ := Cond.arrayClass_spec h
  refine ⟨c, arr_K h2 h3 ?_⟩
  cases ty with
  | object C => exact absurd rfl (hp C)
  | _ => exact h1
theorem start_K {args : Array Value} {s : State} (hts : ∀ w ∈ lw_tbl, w.before args s = true) : ∃ (D : va_G) (cyC cyM : Nat → ClassId), va_K D vwCl (kty cLy cyC) s ∧ va_K D vwCl (kty mLy cyM) s ∧ AOs s ∧ NW s := by
  have hB : ∀ w ∈ BG, w.before args s = true := fun w hw => hts w (List.mem_filter.mp hw).1
  have hAOr : AOr s := ⟨va_AO.of (hts _ (inL1 59 (by decide +kernel))), hts (.arrayOver (.array .long)) (inL1 146 (by decide +kernel))⟩
  have hNS : NS s := ⟨va_Nw.of rfl (hts _ (inL1 27 (by decide +kernel))), va_Nw.of rfl (hts _ (inL1 43 (by decide +kernel))), va_Nw.of rfl (hts _ (inL1 61 (by decide +kernel))), va_Nw.of rfl (hts _ (inL1 141 (by decide +kernel))), va_Nw.of rfl (hts _ (inL1 173 (by decide +kernel))), va_Nw.of rfl (hts _ (inL1 178 (by decide +kernel))), va_Nw.of rfl (hts _ (inL1 180 (by decide +kernel))), va_Nw.of rfl (hts _ (inL1 198 (by decide +kernel))), va_Nw.of rfl (hts _ (inL1 236 (by decide +kernel)))⟩
  have hNW : NW s := va_Nw.of rfl (hts _ (inL2 105 (by decide +kernel)))
  have hc : ∀ c : Nat, ∃ x : ClassId × (Nat → Nat), ∀ q, vwCl[c]? = some q → u_Kn s q.1 q.2.1 q.2.2 x.1 x.2 := by
    intro c
    match c with
    | 0 => obtain ⟨a, b, q⟩ := u_known (ws := BG) (T := TX0) hB inbX0 (hB _ in_X0); exact ⟨(a, b), fun q2 h => by cases h; exact q⟩
    | 1 => obtain ⟨a, b, q⟩ := u_known (ws := BG) (T := TX1) hB inbX1 (hB _ in_X1); exact ⟨(a, b), fun q2 h => by cases h; exact q⟩
    | 2 => obtain ⟨a, b, q⟩ := u_known (ws := BG) (T := TX2) hB inbX2 (hB _ in_X2); exact ⟨(a, b), fun q2 h => by cases h; exact q⟩
    | 3 => obtain ⟨a, b, q⟩ := u_known (ws := BG) (T := TX3) hB inbX3 (hB _ in_X3); exact ⟨(a, b), fun q2 h => by cases h; exact q⟩
    | 4 => obtain ⟨a, b, q⟩ := u_known (ws := BG) (T := TX4) hB inbX4 (hB _ in_X4); exact ⟨(a, b), fun q2 h => by cases h; exact q⟩
    | 5 => obtain ⟨a, b, q⟩ := u_known (ws := BG) (T := TX5) hB inbX5 (hB _ in_X5); exact ⟨(a, b), fun q2 h => by cases h; exact q⟩
    | 6 => obtain ⟨a, b, q⟩ := u_known (ws := BG) (T := TX6) hB inbX6 (hB _ in_X6); exact ⟨(a, b), fun q2 h => by cases h; exact q⟩
    | 7 => obtain ⟨a, b, q⟩ := u_known (ws := BG) (T := TX7) hB inbX7 (hB _ in_X7); exact ⟨(a, b), fun q2 h => by cases h; exact q⟩
    | 8 => obtain ⟨a, b, q⟩ := u_known (ws := BG) (T := TX8) hB inbX8 (hB _ in_X8); exact ⟨(a, b), fun q2 h => by cases h; exact q⟩
    | c + 9 => exact ⟨(0, fun _ => 0), fun q hq => by simp at hq⟩
  have hn : ∃ c : ClassId, ArrOfT s c (.object "RoofNet$Net") ∧ va_RA s c (.object "RoofNet$Net") := by
    obtain ⟨comp, c, k, h1, h2, h3, h4, h5⟩ := Cond.arrayOver_spec hAOr.1
    exact ⟨c, arr_K h3 h4 ⟨k, comp, h3, h4, h1, h5⟩⟩
  have hl : ∃ c : ClassId, ArrOfT s c (.array .long) ∧ va_RA s c (.array .long) := by
    obtain ⟨comp, c, k, h1, h2, h3, h4, h5⟩ := aol_spec hAOr.2
    exact ⟨c, arr_K h3 h4 h5⟩
  have pI := start_arr (hB _ ac_int) (fun _ h => by cases h)
  have pL := start_arr (hB _ ac_long) (fun _ h => by cases h)
  have pC := start_arr (hB _ ac_char) (fun _ h => by cases h)
  have pB := start_arr (hB _ ac_byte) (fun _ h => by cases h)
  have pZ := start_arr (hB _ ac_boolean) (fun _ h => by cases h)
  have kk : ∀ (ty : FieldType), (∃ c : ClassId, ArrOfT s c ty ∧ va_RA s c ty) → ∀ o : Option FieldType, o = some ty → ∃ c : ClassId, ∀ t, o = some t → ArrOfT s c t ∧ va_RA s c t := by
    rintro ty ⟨c, q⟩ o rfl
    exact ⟨c, fun t e => by cases e; exact q⟩
  have hC : ∀ i : Nat, ∃ c : ClassId, ∀ t, cLy.1[i]? = some t → ArrOfT s c t ∧ va_RA s c t := by
    intro i
    match i with
    | 0 => exact kk _ pI _ rfl
    | 1 => exact kk _ pL _ rfl
    | 2 => exact kk _ pC _ rfl
    | 3 => exact kk _ hn _ rfl
    | 4 => exact kk _ hl _ rfl
    | i + 5 => exact ⟨0, fun t e => by cases e⟩
  have hM : ∀ i : Nat, ∃ c : ClassId, ∀ t, mLy.1[i]? = some t → ArrOfT s c t ∧ va_RA s c t := by
    intro i
    match i with
    | 0 => exact kk _ pI _ rfl
    | 1 => exact kk _ pL _ rfl
    | 2 => exact kk _ pB _ rfl
    | 3 => exact kk _ pZ _ rfl
    | i + 4 => exact ⟨0, fun t e => by cases e⟩
  obtain ⟨d, hd⟩ := Classical.axiomOfChoice hc
  obtain ⟨cC, hcC⟩ := Classical.axiomOfChoice hC
  obtain ⟨cM, hcM⟩ := Classical.axiomOfChoice hM
  have key : ∀ (Ly : Lay) (cy : Nat → ClassId), (∀ i t, Ly.1[i]? = some t → ArrOfT s (cy i) t ∧ va_RA s (cy i) t) → va_K (fun c => (d c).1, fun c => (d c).2) vwCl (kty Ly cy) s := by
    intro Ly cy h
    refine ⟨fun c q hq => hd c q hq, fun k q hk => ?_⟩
    unfold kty at hk
    rw [List.getElem?_mapIdx] at hk
    cases ht : Ly.1[k]? with
    | none => rw [ht] at hk; cases hk
    | some t =>
      rw [ht] at hk
      cases hk
      exact h k t ht
  exact ⟨(fun c => (d c).1, fun c => (d c).2), cC, cM, key cLy cC hcC, key mLy cM hcM, ⟨hAOr, hNS⟩, hNW⟩
theorem cw_L_13 : CWv "RoofNetLaw" 13 yX7_write mX7_write 1 := ⟨inT2 150 (by decide +kernel) (by decide +kernel), mi_X7_write.1, mi_X7_write.2.1, mi_X7_write.2.2.1, mi_X7_write.2.2.2, rfl, by decide +kernel, by decide +kernel, by decide⟩
theorem cw_L_18 : CWv "RoofNetLaw" 18 yX7_wipe mX7_wipe 0 := ⟨inT2 155 (by decide +kernel) (by decide +kernel), mi_X7_wipe.1, mi_X7_wipe.2.1, mi_X7_wipe.2.2.1, mi_X7_wipe.2.2.2, rfl, by decide +kernel, by decide +kernel, by decide⟩
theorem cw_L_23 : CWv "RoofNetLaw" 23 yX7_fault mX7_fault 0 := ⟨inT2 159 (by decide +kernel) (by decide +kernel), mi_X7_fault.1, mi_X7_fault.2.1, mi_X7_fault.2.2.1, mi_X7_fault.2.2.2, rfl, by decide +kernel, by decide +kernel, by decide⟩
theorem cw_L_27 : CWv "RoofNetLaw" 27 yX7_lay mX7_lay 0 := ⟨inT2 163 (by decide +kernel) (by decide +kernel), mi_X7_lay.1, mi_X7_lay.2.1, mi_X7_lay.2.2.1, mi_X7_lay.2.2.2, rfl, by decide +kernel, by decide +kernel, by decide⟩
theorem cw_L_31 : CWv "RoofNetLaw" 31 yX7_density mX7_density 2 := ⟨inT2 167 (by decide +kernel) (by decide +kernel), mi_X7_density.1, mi_X7_density.2.1, mi_X7_density.2.2.1, mi_X7_density.2.2.2, rfl, by decide +kernel, by decide +kernel, by decide⟩
theorem cw_L_36 : CWv "RoofNetLaw" 36 yX7_want mX7_want 2 := ⟨inT2 189 (by decide +kernel) (by decide +kernel), mi_X7_want.1, mi_X7_want.2.1, mi_X7_want.2.2.1, mi_X7_want.2.2.2, rfl, by decide +kernel, by decide +kernel, by decide⟩
theorem cw_L_40 : CWv "RoofNetLaw" 40 yX7_load mX7_load 2 := ⟨inT2 193 (by decide +kernel) (by decide +kernel), mi_X7_load.1, mi_X7_load.2.1, mi_X7_load.2.2.1, mi_X7_load.2.2.2, rfl, by decide +kernel, by decide +kernel, by decide⟩
theorem cw_L_44 : CWv "RoofNetLaw" 44 yX7_move mX7_move 3 := ⟨inT2 199 (by decide +kernel) (by decide +kernel), mi_X7_move.1, mi_X7_move.2.1, mi_X7_move.2.2.1, mi_X7_move.2.2.2, rfl, by decide +kernel, by decide +kernel, by decide⟩
theorem cw_L_49 : CWv "RoofNetLaw" 49 yX7_down mX7_down 2 := ⟨inT2 210 (by decide +kernel) (by decide +kernel), mi_X7_down.1, mi_X7_down.2.1, mi_X7_down.2.2.1, mi_X7_down.2.2.2, rfl, by decide +kernel, by decide +kernel, by decide⟩
theorem cw_L_53 : CWv "RoofNetLaw" 53 yX7_round mX7_round 1 := ⟨inT2 219 (by decide +kernel) (by decide +kernel), mi_X7_round.1, mi_X7_round.2.1, mi_X7_round.2.2.1, mi_X7_round.2.2.2, rfl, by decide +kernel, by decide +kernel, by decide⟩
theorem cw_L_57 : CWv "RoofNetLaw" 57 yX7_undo mX7_undo 0 := ⟨inT3 57 (by decide +kernel) (by decide +kernel), mi_X7_undo.1, mi_X7_undo.2.1, mi_X7_undo.2.2.1, mi_X7_undo.2.2.2, rfl, by decide +kernel, by decide +kernel, by decide⟩
theorem cw_L_61 : CWv "RoofNetLaw" 61 yX7_joint mX7_joint 2 := ⟨inT3 65 (by decide +kernel) (by decide +kernel), mi_X7_joint.1, mi_X7_joint.2.1, mi_X7_joint.2.2.1, mi_X7_joint.2.2.2, rfl, by decide +kernel, by decide +kernel, by decide⟩
theorem cw_L_65 : CWv "RoofNetLaw" 65 yX7_exact mX7_exact 3 := ⟨inT3 81 (by decide +kernel) (by decide +kernel), mi_X7_exact.1, mi_X7_exact.2.1, mi_X7_exact.2.2.1, mi_X7_exact.2.2.2, rfl, by decide +kernel, by decide +kernel, by decide⟩
theorem cw_L_69 : CWv "RoofNetLaw" 69 yX7_bears mX7_bears 2 := ⟨inT3 97 (by decide +kernel) (by decide +kernel), mi_X7_bears.1, mi_X7_bears.2.1, mi_X7_bears.2.2.1, mi_X7_bears.2.2.2, rfl, by decide +kernel, by decide +kernel, by decide⟩
theorem cw_L_73 : CWv "RoofNetLaw" 73 yX7_strand mX7_strand 2 := ⟨inT3 105 (by decide +kernel) (by decide +kernel), mi_X7_strand.1, mi_X7_strand.2.1, mi_X7_strand.2.2.1, mi_X7_strand.2.2.2, rfl, by decide +kernel, by decide +kernel, by decide⟩
theorem cw_L_77 : CWv "RoofNetLaw" 77 yX7_slack mX7_slack 0 := ⟨inT3 128 (by decide +kernel) (by decide +kernel), mi_X7_slack.1, mi_X7_slack.2.1, mi_X7_slack.2.2.1, mi_X7_slack.2.2.2, rfl, by decide +kernel, by decide +kernel, by decide⟩
theorem cw_L_81 : CWv "RoofNetLaw" 81 yX7_miss mX7_miss 0 := ⟨inT3 136 (by decide +kernel) (by decide +kernel), mi_X7_miss.1, mi_X7_miss.2.1, mi_X7_miss.2.2.1, mi_X7_miss.2.2.2, rfl, by decide +kernel, by decide +kernel, by decide⟩
theorem cw_L_85 : CWv "RoofNetLaw" 85 yX7_settle mX7_settle 1 := ⟨inT3 145 (by decide +kernel) (by decide +kernel), mi_X7_settle.1, mi_X7_settle.2.1, mi_X7_settle.2.2.1, mi_X7_settle.2.2.2, rfl, by decide +kernel, by decide +kernel, by decide⟩
theorem cw_L_89 : CWv "RoofNetLaw" 89 yX7_better mX7_better 1 := ⟨inT3 157 (by decide +kernel) (by decide +kernel), mi_X7_better.1, mi_X7_better.2.1, mi_X7_better.2.2.1, mi_X7_better.2.2.2, rfl, by decide +kernel, by decide +kernel, by decide⟩
theorem cw_L_93 : CWv "RoofNetLaw" 93 yX7_greatest mX7_greatest 1 := ⟨inT3 170 (by decide +kernel) (by decide +kernel), mi_X7_greatest.1, mi_X7_greatest.2.1, mi_X7_greatest.2.2.1, mi_X7_greatest.2.2.2, rfl, by decide +kernel, by decide +kernel, by decide⟩
theorem cw_L_97 : CWv "RoofNetLaw" 97 yX7_rolls mX7_rolls 1 := ⟨inT3 174 (by decide +kernel) (by decide +kernel), mi_X7_rolls.1, mi_X7_rolls.2.1, mi_X7_rolls.2.2.1, mi_X7_rolls.2.2.2, rfl, by decide +kernel, by decide +kernel, by decide⟩
theorem cw_L_101 : CWv "RoofNetLaw" 101 yX7_rollOf mX7_rollOf 1 := ⟨inT3 217 (by decide +kernel) (by decide +kernel), mi_X7_rollOf.1, mi_X7_rollOf.2.1, mi_X7_rollOf.2.2.1, mi_X7_rollOf.2.2.2, rfl, by decide +kernel, by decide +kernel, by decide⟩
theorem cw_L_105 : CWv "RoofNetLaw" 105 yX7_count mX7_count 1 := ⟨inT3 221 (by decide +kernel) (by decide +kernel), mi_X7_count.1, mi_X7_count.2.1, mi_X7_count.2.2.1, mi_X7_count.2.2.2, rfl, by decide +kernel, by decide +kernel, by decide⟩
theorem cw_L_17 : CWv "RoofNetLaw" 17 yX8_write mX8_write 1 := ⟨inT4 73 (by decide +kernel) (by decide +kernel), mi_X8_write.1, mi_X8_write.2.1, mi_X8_write.2.2.1, mi_X8_write.2.2.2, rfl, by decide +kernel, by decide +kernel, by decide⟩
theorem cw_L_22 : CWv "RoofNetLaw" 22 yX8_wipe mX8_wipe 0 := ⟨inT4 80 (by decide +kernel) (by decide +kernel), mi_X8_wipe.1, mi_X8_wipe.2.1, mi_X8_wipe.2.2.1, mi_X8_wipe.2.2.2, rfl, by decide +kernel, by decide +kernel, by decide⟩
theorem cw_L_26 : CWv "RoofNetLaw" 26 yX8_fault mX8_fault 0 := ⟨inT4 84 (by decide +kernel) (by decide +kernel), mi_X8_fault.1, mi_X8_fault.2.1, mi_X8_fault.2.2.1, mi_X8_fault.2.2.2, rfl, by decide +kernel, by decide +kernel, by decide⟩
theorem cw_L_30 : CWv "RoofNetLaw" 30 yX8_lay mX8_lay 0 := ⟨inT4 136 (by decide +kernel) (by decide +kernel), mi_X8_lay.1, mi_X8_lay.2.1, mi_X8_lay.2.2.1, mi_X8_lay.2.2.2, rfl, by decide +kernel, by decide +kernel, by decide⟩
theorem cw_L_35 : CWv "RoofNetLaw" 35 yX8_density mX8_density 2 := ⟨inT4 140 (by decide +kernel) (by decide +kernel), mi_X8_density.1, mi_X8_density.2.1, mi_X8_density.2.2.1, mi_X8_density.2.2.2, rfl, by decide +kernel, by decide +kernel, by decide⟩
theorem cw_L_39 : CWv "RoofNetLaw" 39 yX8_want mX8_want 2 := ⟨inT4 156 (by decide +kernel) (by decide +kernel), mi_X8_want.1, mi_X8_want.2.1, mi_X8_want.2.2.1, mi_X8_want.2.2.2, rfl, by decide +kernel, by decide +kernel, by decide⟩
theorem cw_L_43 : CWv "RoofNetLaw" 43 yX8_load mX8_load 2 := ⟨inT4 160 (by decide +kernel) (by decide +kernel), mi_X8_load.1, mi_X8_load.2.1, mi_X8_load.2.2.1, mi_X8_load.2.2.2, rfl, by decide +kernel, by decide +kernel, by decide⟩
theorem cw_L_48 : CWv "RoofNetLaw" 48 yX8_move mX8_move 3 := ⟨inT4 172 (by decide +kernel) (by decide +kernel), mi_X8_move.1, mi_X8_move.2.1, mi_X8_move.2.2.1, mi_X8_move.2.2.2, rfl, by decide +kernel, by decide +kernel, by decide⟩
theorem cw_L_52 : CWv "RoofNetLaw" 52 yX8_down_ mX8_down_ 2 := ⟨inT4 176 (by decide +kernel) (by decide +kernel), mi_X8_down_.1, mi_X8_down_.2.1, mi_X8_down_.2.2.1, mi_X8_down_.2.2.2, rfl, by decide +kernel, by decide +kernel, by decide⟩
theorem cw_L_56 : CWv "RoofNetLaw" 56 yX8_round mX8_round 1 := ⟨inT4 192 (by decide +kernel) (by decide +kernel), mi_X8_round.1, mi_X8_round.2.1, mi_X8_round.2.2.1, mi_X8_round.2.2.2, rfl, by decide +kernel, by decide +kernel, by decide⟩
theorem cw_L_60 : CWv "RoofNetLaw" 60 yX8_undo mX8_undo 0 := ⟨inT4 237 (by decide +kernel) (by decide +kernel), mi_X8_undo.1, mi_X8_undo.2.1, mi_X8_undo.2.2.1, mi_X8_undo.2.2.2, rfl, by decide +kernel, by decide +kernel, by decide⟩
theorem cw_L_64 : CWv "RoofNetLaw" 64 yX8_joint mX8_joint 2 := ⟨inT5 1 (by decide +kernel) (by decide +kernel), mi_X8_joint.1, mi_X8_joint.2.1, mi_X8_joint.2.2.1, mi_X8_joint.2.2.2, rfl, by decide +kernel, by decide +kernel, by decide⟩
theorem cw_L_68 : CWv "RoofNetLaw" 68 yX8_exact mX8_exact 3 := ⟨inT5 18 (by decide +kernel) (by decide +kernel), mi_X8_exact.1, mi_X8_exact.2.1, mi_X8_exact.2.2.1, mi_X8_exact.2.2.2, rfl, by decide +kernel, by decide +kernel, by decide⟩
theorem cw_L_72 : CWv "RoofNetLaw" 72 yX8_bears mX8_bears 2 := ⟨inT5 27 (by decide +kernel) (by decide +kernel), mi_X8_bears.1, mi_X8_bears.2.1, mi_X8_bears.2.2.1, mi_X8_bears.2.2.2, rfl, by decide +kernel, by decide +kernel, by decide⟩
theorem cw_L_76 : CWv "RoofNetLaw" 76 yX8_strand mX8_strand 2 := ⟨inT5 31 (by decide +kernel) (by decide +kernel), mi_X8_strand.1, mi_X8_strand.2.1, mi_X8_strand.2.2.1, mi_X8_strand.2.2.2, rfl, by decide +kernel, by decide +kernel, by decide⟩
theorem cw_L_80 : CWv "RoofNetLaw" 80 yX8_slack mX8_slack 0 := ⟨inT5 39 (by decide +kernel) (by decide +kernel), mi_X8_slack.1, mi_X8_slack.2.1, mi_X8_slack.2.2.1, mi_X8_slack.2.2.2, rfl, by decide +kernel, by decide +kernel, by decide⟩
theorem cw_L_84 : CWv "RoofNetLaw" 84 yX8_miss mX8_miss 0 := ⟨inT5 43 (by decide +kernel) (by decide +kernel), mi_X8_miss.1, mi_X8_miss.2.1, mi_X8_miss.2.2.1, mi_X8_miss.2.2.2, rfl, by decide +kernel, by decide +kernel, by decide⟩
theorem cw_L_88 : CWv "RoofNetLaw" 88 yX8_settle mX8_settle 1 := ⟨inT5 51 (by decide +kernel) (by decide +kernel), mi_X8_settle.1, mi_X8_settle.2.1, mi_X8_settle.2.2.1, mi_X8_settle.2.2.2, rfl, by decide +kernel, by decide +kernel, by decide⟩
theorem cw_L_92 : CWv "RoofNetLaw" 92 yX8_better mX8_better 1 := ⟨inT5 55 (by decide +kernel) (by decide +kernel), mi_X8_better.1, mi_X8_better.2.1, mi_X8_better.2.2.1, mi_X8_better.2.2.2, rfl, by decide +kernel, by decide +kernel, by decide⟩
theorem cw_L_96 : CWv "RoofNetLaw" 96 yX8_greatest mX8_greatest 1 := ⟨inT5 59 (by decide +kernel) (by decide +kernel), mi_X8_greatest.1, mi_X8_greatest.2.1, mi_X8_greatest.2.2.1, mi_X8_greatest.2.2.2, rfl, by decide +kernel, by decide +kernel, by decide⟩
theorem cw_L_100 : CWv "RoofNetLaw" 100 yX8_rolls mX8_rolls 1 := ⟨inT5 63 (by decide +kernel) (by decide +kernel), mi_X8_rolls.1, mi_X8_rolls.2.1, mi_X8_rolls.2.2.1, mi_X8_rolls.2.2.2, rfl, by decide +kernel, by decide +kernel, by decide⟩
theorem cw_L_104 : CWv "RoofNetLaw" 104 yX8_rollOf mX8_rollOf 1 := ⟨inT5 87 (by decide +kernel) (by decide +kernel), mi_X8_rollOf.1, mi_X8_rollOf.2.1, mi_X8_rollOf.2.2.1, mi_X8_rollOf.2.2.2, rfl, by decide +kernel, by decide +kernel, by decide⟩
theorem cw_L_108 : CWv "RoofNetLaw" 108 yX8_count mX8_count 1 := ⟨inT5 91 (by decide +kernel) (by decide +kernel), mi_X8_count.1, mi_X8_count.2.1, mi_X8_count.2.2.1, mi_X8_count.2.2.2, rfl, by decide +kernel, by decide +kernel, by decide⟩
