/-! The law's loop and its start: by program (wip/whole/mk_law3.py). -/
section LAW5
variable {p : Program} {l : Launch} {e : Env} {s : State} {m : MethodId} {below : List Frame} {meth : Method} {c : Code} {Q : State → Prop} {b L : Nat} {xs : Nat → Int32}
variable {D : va_G} {cyC cyM adC adM : Nat → Nat}
theorem law_sw {ls : Array Slot} {h g : Hp} {i : Nat} {z : St} {H : Heap} {locs : List Loc} {x : Int32} (F : LW p s m c D cyC cyM b L xs) (hi : i + 4 ≤ L) (hl : lv_has ls 4 [(3, iv (i : Int)), (2, .ref (adM 0)), (1, .ref (adC 0)), (0, .ref b)]) (hC : CInv h z) (hM : MInv g z) (J : JJ D cyC cyM adC adM s h g H locs) (next : ∀ (h g : Hp) (z : St) (H : Heap) (locs : List Loc), CInv h z → MInv g z → JJ D cyC cyM adC adM s h g H locs → W p l e room_1 s m #[Value.ref b] below meth c H locs 200 40000 Q (F0 m 719 ls [])) : W p l e room_1 s m #[Value.ref b] below meth c H locs 200 40000 Q (F0 m 32 ls [.int x]) := by
  have hx := F.1
  have hb := F.2.1
  rcases (by omega : (x.toInt < 0 ∨ 22 < x.toInt) ∨ x.toInt = 0 ∨ x.toInt = 1 ∨ x.toInt = 2 ∨ x.toInt = 3 ∨ x.toInt = 4 ∨ x.toInt = 5 ∨ x.toInt = 6 ∨ x.toInt = 7 ∨ x.toInt = 8 ∨ x.toInt = 9 ∨ x.toInt = 10 ∨ x.toInt = 11 ∨ x.toInt = 12 ∨ x.toInt = 13 ∨ x.toInt = 14 ∨ x.toInt = 15 ∨ x.toInt = 16 ∨ x.toInt = 17 ∨ x.toInt = 18 ∨ x.toInt = 19 ∨ x.toInt = 20 ∨ x.toInt = 21 ∨ x.toInt = 22) with q | q | q | q | q | q | q | q | q | q | q | q | q | q | q | q | q | q | q | q | q | q | q | q
  · exact lv_tableOut (tgt := 719) hx hb dL_law_32 q (by decide) (next _ _ _ _ _ hC hM J)
  · exact lv_tableIn (off := 108) (tgt := 140) hx hb dL_law_32 (by omega) (by omega) (by rw [q]; rfl) (by decide) (law_write F hi hl hC hM J next)
  · exact lv_tableIn (off := 131) (tgt := 163) hx hb dL_law_32 (by omega) (by omega) (by rw [q]; rfl) (by decide) (law_wipe F hi hl hC hM J next)
  · exact lv_tableIn (off := 144) (tgt := 176) hx hb dL_law_32 (by omega) (by omega) (by rw [q]; rfl) (by decide) (law_fault F hi hl hC hM J next)
  · exact lv_tableIn (off := 157) (tgt := 189) hx hb dL_law_32 (by omega) (by omega) (by rw [q]; rfl) (by decide) (law_lay F hi hl hC hM J next)
  · exact lv_tableIn (off := 170) (tgt := 202) hx hb dL_law_32 (by omega) (by omega) (by rw [q]; rfl) (by decide) (law_density F hi hl hC hM J next)
  · exact lv_tableIn (off := 203) (tgt := 235) hx hb dL_law_32 (by omega) (by omega) (by rw [q]; rfl) (by decide) (law_want F hi hl hC hM J next)
  · exact lv_tableIn (off := 236) (tgt := 268) hx hb dL_law_32 (by omega) (by omega) (by rw [q]; rfl) (by decide) (law_load F hi hl hC hM J next)
  · exact lv_tableIn (off := 269) (tgt := 301) hx hb dL_law_32 (by omega) (by omega) (by rw [q]; rfl) (by decide) (law_move F hi hl hC hM J next)
  · exact lv_tableIn (off := 312) (tgt := 344) hx hb dL_law_32 (by omega) (by omega) (by rw [q]; rfl) (by decide) (law_down F hi hl hC hM J next)
  · exact lv_tableIn (off := 345) (tgt := 377) hx hb dL_law_32 (by omega) (by omega) (by rw [q]; rfl) (by decide) (law_round F hi hl hC hM J next)
  · exact lv_tableIn (off := 368) (tgt := 400) hx hb dL_law_32 (by omega) (by omega) (by rw [q]; rfl) (by decide) (law_undo F hi hl hC hM J next)
  · exact lv_tableIn (off := 381) (tgt := 413) hx hb dL_law_32 (by omega) (by omega) (by rw [q]; rfl) (by decide) (law_joint F hi hl hC hM J next)
  · exact lv_tableIn (off := 414) (tgt := 446) hx hb dL_law_32 (by omega) (by omega) (by rw [q]; rfl) (by decide) (law_exact F hi hl hC hM J next)
  · exact lv_tableIn (off := 457) (tgt := 489) hx hb dL_law_32 (by omega) (by omega) (by rw [q]; rfl) (by decide) (law_bears F hi hl hC hM J next)
  · exact lv_tableIn (off := 490) (tgt := 522) hx hb dL_law_32 (by omega) (by omega) (by rw [q]; rfl) (by decide) (law_strand F hi hl hC hM J next)
  · exact lv_tableIn (off := 523) (tgt := 555) hx hb dL_law_32 (by omega) (by omega) (by rw [q]; rfl) (by decide) (law_slack F hi hl hC hM J next)
  · exact lv_tableIn (off := 536) (tgt := 568) hx hb dL_law_32 (by omega) (by omega) (by rw [q]; rfl) (by decide) (law_miss F hi hl hC hM J next)
  · exact lv_tableIn (off := 549) (tgt := 581) hx hb dL_law_32 (by omega) (by omega) (by rw [q]; rfl) (by decide) (law_settle F hi hl hC hM J next)
  · exact lv_tableIn (off := 572) (tgt := 604) hx hb dL_law_32 (by omega) (by omega) (by rw [q]; rfl) (by decide) (law_better F hi hl hC hM J next)
  · exact lv_tableIn (off := 595) (tgt := 627) hx hb dL_law_32 (by omega) (by omega) (by rw [q]; rfl) (by decide) (law_greatest F hi hl hC hM J next)
  · exact lv_tableIn (off := 618) (tgt := 650) hx hb dL_law_32 (by omega) (by omega) (by rw [q]; rfl) (by decide) (law_rolls F hi hl hC hM J next)
  · exact lv_tableIn (off := 641) (tgt := 673) hx hb dL_law_32 (by omega) (by omega) (by rw [q]; rfl) (by decide) (law_rollOf F hi hl hC hM J next)
  · exact lv_tableIn (off := 664) (tgt := 696) hx hb dL_law_32 (by omega) (by omega) (by rw [q]; rfl) (by decide) (law_count F hi hl hC hM J next)
theorem law_loop (F : LW p s m c D cyC cyM b L xs) (out : ∀ (H : Heap) (locs : List Loc) (ls : Array Slot), va_S (aN s) s.heap H locs → W p l e room_1 s m #[Value.ref b] below meth c H locs 200 40000 Q (F0 m 725 ls [])) : ∀ (f i : Nat), L < i + f → ∀ (h g : Hp) (z : St) (H : Heap) (locs : List Loc) (ls : Array Slot), CInv h z → MInv g z → JJ D cyC cyM adC adM s h g H locs → lv_has ls 4 [(3, iv (i : Int)), (2, .ref (adM 0)), (1, .ref (adC 0)), (0, .ref b)] → i ≤ 4096 → W p l e room_1 s m #[Value.ref b] below meth c H locs 200 40000 Q (F0 m 18 ls []) := by
  have hF := F
  obtain ⟨hx, hb, hml, hown, hB, hN, hKC, hKM, hX, hbl, hL⟩ := F
  intro f
  induction f with
  | zero =>
    intro i hf h g z H locs ls hC hM J hl hi
    refine lv_iload_n hx hb dL_law_18 rfl (lv_at hl 0 rfl) ?_
    refine lv_aload_n hx hb dL_law_19 rfl (lv_at hl 3 rfl) ?_
    refine va_slen hx hb hX hbl (by show ¬ s.heap.size ≤ b; omega) J.2.2.2.2.2 dL_law_20 ?_
    refine lv_iconst hx hb dL_law_21 (v := Int32.ofInt 4) rfl ?_
    refine lv_isub hx hb dL_law_22 ?_
    rw [show Int32.ofNat L = Int32.ofInt (L : Int) from Int32.ofInt_eq_ofNat.symm, ← Int32.ofInt_sub]
    refine lv_icmp_gt (tgt := 725) hx hb dL_law_23 (by decide) (fun _ => out _ _ _ J.2.2.2.2.2) (fun q => absurd ((i32lt ⟨by omega, by omega⟩ ⟨by omega, by omega⟩).mpr (by omega)) q)
  | succ f ih =>
    intro i hf h g z H locs ls hC hM J hl hi
    refine lv_iload_n hx hb dL_law_18 rfl (lv_at hl 0 rfl) ?_
    refine lv_aload_n hx hb dL_law_19 rfl (lv_at hl 3 rfl) ?_
    refine va_slen hx hb hX hbl (by show ¬ s.heap.size ≤ b; omega) J.2.2.2.2.2 dL_law_20 ?_
    refine lv_iconst hx hb dL_law_21 (v := Int32.ofInt 4) rfl ?_
    refine lv_isub hx hb dL_law_22 ?_
    rw [show Int32.ofNat L = Int32.ofInt (L : Int) from Int32.ofInt_eq_ofNat.symm, ← Int32.ofInt_sub]
    refine lv_icmp_gt (tgt := 725) hx hb dL_law_23 (by decide) (fun _ => out _ _ _ J.2.2.2.2.2) (fun q => ?_)
    have hi4 : i + 4 ≤ L := by
      rcases Nat.lt_or_ge L (i + 4) with z | z
      · exact absurd ((i32lt (x := (L : Int) - 4) (y := (i : Int)) ⟨by omega, by omega⟩ ⟨by omega, by omega⟩).mpr (by omega)) q
      · exact z
    refine lv_aload_n hx hb dL_law_26 rfl (lv_at hl 3 rfl) ?_
    refine lv_iload_n hx hb dL_law_27 rfl (lv_at hl 0 rfl) ?_
    refine va_sld hx hb hX hbl (by show ¬ s.heap.size ≤ b; omega) J.2.2.2.2.2 (i := Int32.ofInt (i : Int)) (i32in (by omega) (by omega) (by omega)) dL_law_28 ?_
    refine lv_bipush hx hb dL_law_29 (v := Int32.ofInt 31) (by decide) ?_
    refine lv_iand hx hb dL_law_31 ?_
    refine law_sw hF hi4 hl hC hM J (fun h g z H locs hC hM J => ?_)
    refine lv_iinc (v := Int32.ofInt ((i + 4 : Nat) : Int)) (lv' := [(3, iv ((i + 4 : Nat) : Int)), (2, .ref (adM 0)), (1, .ref (adC 0)), (0, .ref b)]) hx hb dL_law_719 hl (k := 0) rfl (by rw [← Int32.ofInt_add]; rfl) (by decide) rfl (fun ls hl => ?_)
    refine lv_goto (tgt := 18) hx hb dL_law_722 (by decide) ?_
    exact ih (i + 4) (by omega) h g z H locs ls hC hM J hl (by omega)
end LAW5
/-! THE CLAIM OUT OF ONE WALK OF THE LAW'S BODY. Your part is whole_start (and what it stands on); all else here is the same for every law, but numbers. -/
def R_law : String := "RoofNetLaw"
def lw_P (b : Addr) (xs : List Int32) (args : Array Value) (s : State) : Prop := args = #[.ref b] ∧ s.IntsAt b xs ∧ xs.length ≤ 2048 ∧ (Jvm.Cond.and given_1 narrow_1).before args s = true
def lw_Q (_ : Array Value) (s : State) (o : Outcome) (t : State) : Prop := o = .returned (some (.int 1)) ∧ Framed s o t [] 600000 7302250
def lw_Z (below : List Frame) (a : Array Value) (s : State) : State → Prop := fun t => ∃ o, t.status = .running ∧ Ended t below o ∧ lw_Q a s o t
/-- the law's own end, with 1 on the stack, nothing written that was there before, its room as the claim has it -/
theorem lw_ret {p : Program} {l : Launch} {e : Env} {s : State} {m : MethodId} {below : List Frame} {meth : Method} {c : Code} {b : Nat} (hx : p.tables.exec = Jvm.exec) (hb : c.code = code) (hr : meth.sig.returnType = ret) (hlocks : meth.locks = false) {pc : Nat} {H : Heap} {ls : Array Slot} (hdg : decode code pc = .ok (.ireturn, 1)) : W p l e room_1 s m #[Value.ref b] below meth c H [] 600000 7302250 (lw_Z below #[Value.ref b] s) (F0 m pc ls [.int 1]) := by
  intro T hT X
  obtain ⟨fs, hret, hrun, hended, hW, hframe⟩ := X.leave (v := some (.int 1)) (hlocks := hlocks) (fun h => by rw [hr] at h; cases h)
  have hmeth' : T.vm.method? m = some meth := X.method'
  refine ⟨T.setFrames fs, ?_, .returned (some (.int 1)), hrun, hended, rfl, ⟨_, rfl⟩, hW, hframe⟩
  jvm_step X.here [X.here.top, hx, hb, hdg, hmeth', hr, ret, narrow_b1]
  (try refine ⟨rfl, ?_⟩); (try refine ⟨rfl, ?_⟩)
  first | (intro acts; rw [hret _ acts rfl rfl rfl]) | rw [hret _ _ rfl rfl rfl]
  exact Steps.refl _
/-- what holds at the law's entry: the machine, the code, the tables' words (any of lw_tbl by 'hts w (by decide +kernel)'), the script of L ints xs at the cell b, what the Statement gives of the start (any of its parts by flat_of_before) -/
def lw_At (p : Program) (s : State) (m : MethodId) (meth : Method) (c : Code) (b L : Nat) (xs : Nat → Int32) : Prop :=
  p.tables.exec = Jvm.exec ∧ c.code = code ∧ meth.sig.returnType = ret ∧ c.maxLocals = 4 ∧ s.vm.findClass R_law = some m.cls ∧ (∀ w ∈ lw_tbl, w.before #[Value.ref b] s = true) ∧ va_X b L xs s s.heap ∧ b < s.heap.size ∧ meth.locks = false ∧ (Jvm.Cond.and given_1 narrow_1).before #[Value.ref b] s = true
theorem start_S {b : Nat} {s : State} (hts : ∀ w ∈ lw_tbl, w.before #[Value.ref b] s = true) (hgv : (Jvm.Cond.and given_1 narrow_1).before #[Value.ref b] s = true) : ∃ (ka kv : Nat) (kf : Option Nat), vk_R RX7 61 txF ka s ∧ SX (aN s) ka kv kf s s.heap := by
  have hs := flat_of_before _ hgv
  have hA : ∀ a : Nat, a < s.heap.size → ¬ aN s a := fun a h => by show ¬ s.heap.size ≤ a; omega
  have hel : ∀ j, j < 96 → (Cond.eq (.elem (.field (.string "RoofNet" 61) "java/lang/String" "value" "[B") (.int (Int32.ofNat j))) (.int (FT.getD j 0))).before #[Value.ref b] s = true := fun j hj => hs _ ((by decide +kernel : ∀ j, j < 96 → (Cond.eq (.elem (.field (.string "RoofNet" 61) "java/lang/String" "value" "[B") (.int (Int32.ofNat j))) (.int (FT.getD j 0))) ∈ flatC (Jvm.Cond.and given_1 narrow_1)) j hj)
  obtain ⟨adK, adV, hV, hT⟩ := vk_Sof (args := #[Value.ref b]) (s := s) (N := 1) (tm := fun _ => .string "RoofNet" 61) (len := [96]) (byt := [FT]) (A := aN s) (fun i hi => by match i, hi with | 0, _ => decide | k + 1, h => exact absurd h (by omega))
    (fun i _ => hs (Cond.exactly (.string "RoofNet" 61) "java/lang/String") (by decide +kernel)) (fun i _ => hs (Cond.eq (.field (.string "RoofNet" 61) "java/lang/String" "coder" "B") (.int 0)) (by decide +kernel)) (fun i _ => hs (Cond.arrayOf (.field (.string "RoofNet" 61) "java/lang/String" "value" "[B") .byte) (by decide +kernel))
    (fun i hi => by match i, hi with | 0, _ => exact hs (Cond.eq (.length (.field (.string "RoofNet" 61) "java/lang/String" "value" "[B")) (.int 96)) (by decide +kernel) | k + 1, h => exact absurd h (by omega))
    (fun i hi j hj => by match i, hi with | 0, _ => exact hel j hj | k + 1, h => exact absurd h (by omega)) (fun i j hi hj h => absurd (show i = j by omega) h) hA
  have h0 := hV.1 0 (by decide)
  have hR : vk_R RX7 61 txF (adK 0) s := vk_R.of (A := #[Value.ref b]) (hts (.stringRef "RoofNet" 61 txF) (inL1 237 (by decide +kernel))) (hT 0 (by decide))
  have hc : va_Z "java/lang/String" "COMPACT_STRINGS" "Z" (.int 1) (aN s) s s.heap := va_Zof (hts (.laysStatic "java/lang/String" "COMPACT_STRINGS" "Z") (inL2 7 (by decide +kernel))) (hts (.initialized "java/lang/String") (inL1 9 (by decide +kernel))) (va_eqt (hs (Cond.eq (.static "java/lang/String" "COMPACT_STRINGS" "Z") (.int 1)) (by decide +kernel))) hA
  have hq := va_Zqof (A := aN s) (hts (.laysStatic "jdk/internal/util/Preconditions" "SIOOBE_FORMATTER" "Ljava/util/function/BiFunction;") (inL2 23 (by decide +kernel))) (hts (.initialized "jdk/internal/util/Preconditions") (inL1 11 (by decide +kernel))) (hs (Cond.isRef (.static "jdk/internal/util/Preconditions" "SIOOBE_FORMATTER" "Ljava/util/function/BiFunction;")) (by decide +kernel)) hA
  rcases hq with hq | ⟨t, hq⟩
  · exact ⟨adK 0, adV 0, none, hR, h0.1, h0.2.1, h0.2.2.1, h0.2.2.2, hc, hq⟩
  · exact ⟨adK 0, adV 0, some t, hR, h0.1, h0.2.1, h0.2.2.1, h0.2.2.2, hc, hq⟩
set_option maxHeartbeats 1000000 in
theorem whole_start {p : Program} {e : Env} {s : State} {m : MethodId} {below : List Frame} {meth : Method} {c : Code} (l : Launch) (hflags : l.flags = flags0) {b L : Nat} {xs : Nat → Int32} (hL : L ≤ 2048) (C0 : lw_At p s m meth c b L xs) : W p l e room_1 s m #[Value.ref b] below meth c s.heap [] 0 0 (lw_Z below #[Value.ref b] s) (entryFrame m ([Value.ref b] : List Value).toArray 4) := by
  obtain ⟨hx, hb, hr, hml, hown, hts, hX, hbl, hlk, hgv⟩ := C0
  obtain ⟨D, cyC, cyM, hKC, hKM, hAO, hN⟩ := start_K hts
  obtain ⟨ka, kv, kf, hZ, hSX⟩ := start_S hts hgv
  have hB : ∀ w ∈ BG, w.before #[Value.ref b] s = true := fun w hw => hts w (List.mem_filter.mp hw).1
  have hb : c.code = cL_law := hb
  have hown : s.vm.findClass "RoofNetLaw" = some m.cls := hown
  have F : LW p s m c D cyC cyM b L xs := ⟨hx, hb, hml, hown, hB, hN, hKC, hKM, hX, hbl, hL⟩
  have hl := lv_entry ([.ref b]) (n := 4) (Nat.le_of_ble_eq_true rfl)
  rw [lg_entry_eq]
  generalize (lg_sl ([.ref b]) ++ List.replicate (4 - (lg_sl ([.ref b])).length) Slot.unset).toArray = ls at hl ⊢
  have hl : lv_has ls 4 [(0, .ref b)] := hl
  have hA : ∀ q, s.heap.size ≤ q → aN s q := fun q h => h
  have hS : va_S (aN s) s.heap s.heap [] := va_S.rf
  have hP : va_P D vwCl [] s.heap := fun k q hk => by simp at hk
  have hD : va_D (aN s) [] := ⟨fun i j p q hi => by simp at hi, fun k q hk => by simp at hk⟩
  refine Rnew (y := yX7_init) (ci := 7) (C := RX7) (T := TX7) (N := 8) (fs := bX7) (E := EX7 ka kv kf) (Good := GoodC) hx hb hml hown hB hN hl.1 rfl inbX7 tyX7 tyX7_ok (fun j hj => by match j, hj with | 0, _ => rfl | 1, _ => rfl | 2, _ => rfl | 3, _ => rfl | 4, _ => rfl | 5, _ => rfl | 6, _ => rfl | 7, _ => rfl | k + 8, h => exact absurd h (by omega)) cl_L_7 in_X7 iz_X7 iz_X7 ml_L_9 ci_X7 cc_X7 rfl ⟨by decide +kernel, by decide +kernel, by decide +kernel⟩ (k_X7 l D cyC ka kv kf) EX7_blind (fun q H1 hq hS1 U hU hW => ⟨vk_R.warm hW hZ, ?_⟩) rfl rfl ⟨Nat.le_of_ble_eq_true rfl, Nat.le_of_ble_eq_true rfl⟩ (Nat.le_of_ble_eq_true rfl) (Nat.le_of_ble_eq_true rfl) (Nat.le_of_ble_eq_true rfl) hKC hAO hP hD hS hA dL_law_0 dL_law_3 dL_law_4 (fun adC h H locs hgC hP hD hS => ?_)
  · rw [hU]
    refine ((hSX.kept hS1.2.1).moved hW.alike).narrow (fun x z => ?_)
    rcases z with ⟨k, e, z⟩ | z
    · match k, z with
      | 0, z => cases z; exact hq
      | k + 1, z => simp at z
    · exact Nat.le_trans hS1.1 z
  rw [List.nil_append] at hP hD
  refine lv_astore_n (lv' := [(1, .ref (adC 0)), (0, .ref b)]) hx hb dL_law_7 rfl hl (by decide) rfl (fun ls hl => ?_)
  refine Rnew (y := yX8_init) (ci := 8) (C := RX8) (T := TX8) (N := 24) (fs := bX8) (E := EX8) (Good := GoodM) hx hb hml hown hB hN hl.1 rfl inbX8 tyX8 tyX8_ok (fun j hj => by match j, hj with | 0, _ => rfl | 1, _ => rfl | 2, _ => rfl | 3, _ => rfl | 4, _ => rfl | 5, _ => rfl | 6, _ => rfl | 7, _ => rfl | 8, _ => rfl | 9, _ => rfl | 10, _ => rfl | 11, _ => rfl | 12, _ => rfl | 13, _ => rfl | 14, _ => rfl | 15, _ => rfl | 16, _ => rfl | 17, _ => rfl | 18, _ => rfl | 19, _ => rfl | 20, _ => rfl | 21, _ => rfl | 22, _ => rfl | 23, _ => rfl | k + 24, h => exact absurd h (by omega)) cl_L_10 in_X8 iz_X8 iz_X8 ml_L_12 ci_X8 cc_X8 rfl ⟨by decide +kernel, by decide +kernel, by decide +kernel⟩ (k_X8 l D cyM) (fun _ _ _ _ _ _ => trivial) (fun _ _ _ _ _ _ _ => trivial) rfl rfl ⟨Nat.le_of_ble_eq_true rfl, Nat.le_of_ble_eq_true rfl⟩ (Nat.le_of_ble_eq_true rfl) (Nat.le_of_ble_eq_true rfl) (Nat.le_of_ble_eq_true rfl) hKM hAO hP hD hS hA dL_law_8 dL_law_11 dL_law_12 (fun adM g H locs hgM hP hD hS => ?_)
  refine W.widen (k := 200) (n := 40000) (Nat.le_of_ble_eq_true rfl) (Nat.le_of_ble_eq_true rfl) ?_
  refine lv_astore_n (lv' := [(2, .ref (adM 0)), (1, .ref (adC 0)), (0, .ref b)]) hx hb dL_law_15 rfl hl (by decide) rfl (fun ls hl => ?_)
  refine lv_iconst hx hb dL_law_16 (v := Int32.ofInt 0) rfl ?_
  refine lv_istore_n (lv' := [(3, iv 0), (2, .ref (adM 0)), (1, .ref (adC 0)), (0, .ref b)]) hx hb dL_law_17 rfl hl (by decide) rfl (fun ls hl => ?_)
  refine law_loop F (fun H locs ls hS => ?_) (L + 1) 0 (by omega) h g s0 H locs ls (c_start hgC) (m_start hgM) ⟨P_l hP, P_r hP, D_l hD, D_r hD, fun q => D_dis hD q, hS⟩ hl (by decide)
  refine W.forget (locs := []) (L := locs) hS.2.2 ?_
  refine lv_iconst hx hb dL_law_725 (v := 1) rfl ?_
  refine W.widen (k := 600000) (n := 7302250) (by decide) (by decide) ?_
  exact lw_ret hx hb hr hlk dL_law_726
set_option maxHeartbeats 4000000 in
theorem lw_walk (l : Launch) (hflags : l.flags = flags0) (b : Addr) (xs : List Int32) : MetFree l x (headSpec (Jvm.Cond.code x code maxLocals ret :: tables_1) room_1) (lw_P b xs) (fun _ _ _ _ _ => True) lw_Q := by
  refine MetFree.of_bodyS (code := code) (maxLocals := maxLocals) (ret := ret) (by decide) ?_ ?_
  · intro args s m h hn
    obtain ⟨meth, c, h1, h2, h3, h4, h5, h6, -, -⟩ := Cond.code_spec hn (atoms_spec (ws := Jvm.Cond.code x code maxLocals ret :: tables_1) h _ List.mem_cons_self)
    exact ⟨meth, c, h1, h2, h3, h4, h5, h6⟩
  · intro p e s m args below meth c s₁ B hml0 hP _
    obtain ⟨rfl, hx, hbd, hgv⟩ := hP
    obtain ⟨scr, harrAt, hlist, hof, hsmall⟩ := hx
    obtain ⟨hcb, hkn, -, -⟩ := State.arrayAt?_spec harrAt
    have hown : s.vm.findClass R_law = some m.cls := findClass_of_methodNamed B.named
    have hts0 : ∀ c ∈ (Jvm.Cond.code x code maxLocals ret :: tables_1), c.before #[Value.ref b] s = true := atoms_spec (ws := Jvm.Cond.code x code maxLocals ret :: tables_1) B.pre
    have hts : ∀ w ∈ lw_tbl, w.before #[Value.ref b] s = true := k2_hts_sels lw_privs (fun w hw => hts0 w (List.mem_cons_of_mem _ hw)) lw_privs_ok
    have hml : c.maxLocals = 4 := B.maxLocals_eq (hts0 _ List.mem_cons_self)
    have X₀ : Stand p l e room_1 s m #[Value.ref b] below meth c s₁ [] 0 0 := Stand.of_body B
    have hh0 : s₁.heap = s.heap := by rw [B.state]; rfl
    have hsz : scr.slots.size = xs.length := by rw [← Array.length_toList, hlist, List.length_map]
    have hval : ∀ j : Nat, j < xs.length → scr.slots[j]? = some (.int (xs.getD j 0)) := fun j hj => by
      rw [← Array.getElem?_toList, hlist]
      simp [hj]
    have hbl : b < s.heap.size := (Array.getElem?_eq_some_iff.mp hcb).1
    have hX : va_X b xs.length (fun j => xs.getD j 0) s s.heap := ⟨scr, hcb, hof, hkn, hsz, hval⟩
    have K : W p l e room_1 s m #[Value.ref b] below meth c s₁.heap [] 0 0 (lw_Z below #[Value.ref b] s) (entryFrame m ([Value.ref b] : List Value).toArray 4) := by
      rw [hh0]
      exact whole_start l hflags hbd ⟨B.exec, B.bytes, B.returns, hml, hown, hts, hX, hbl, B.notSynchronized, hgv⟩
    obtain ⟨t, a1, o, b1, b2, b3⟩ := K s₁ rfl X₀
    exact ⟨t, o, a1, b1, b2, b3⟩
theorem lw_pre_spec {args : Array Value} {s : State} (h : (Jvm.Cond.and given_1 narrow_1).before args s = true) (hr : rest_1_c.before args s = true) : ∃ (b : Addr) (xs : List Int32), lw_P b xs args s := by
  have hs := flat_of_before _ h
  have hq := flat_of_before _ hr
  have hc : (Cond.count 1).before args s = true := hs _ (by decide +kernel)
  have harr : (Cond.arrayOf (.arg 0) .int).before args s = true := hs _ (by decide +kernel)
  have hle : (Cond.le (.length (.arg 0)) (.int 2048)).before args s = true := hs _ (by decide +kernel)
  have hlen : (Cond.isInt (.length (.arg 0))).before args s = true := hq _ (by decide +kernel)
  have hall : (Cond.all (.arg 0) (.isInt (.elem (.arg 0) (.index 0)))).before args s = true := hq _ (by decide +kernel)
  obtain ⟨b, xs, hb, hx⟩ := State.ints_of_pre rfl harr hlen hall
  have hsm : xs.length < 2 ^ 31 := hx.choose_spec.2.2.2
  have hev : (Term.length (.arg 0)).eval args s none [] s = some (.int xs.length.toInt32) := hx.length_eval hb
  have hv := Cond.le_ints hev (show (Term.int 2048).eval args s none [] s = some (.int 2048) from rfl)
  have hd : xs.length.toInt32 ≤ 2048 := by
    simpa [Cond.before, Cond.holds, hv] using hle
  have hN : xs.length ≤ 2048 := (Int32.ofNat_le_ofNat hsm (by decide)).mp (show Int32.ofNat xs.length ≤ Int32.ofNat 2048 from hd)
  exact ⟨b, xs, Cond.one_arg hc (show args[0]? = some (.ref b) from hb), hx, hN, h⟩
theorem lw_comes (l : Launch) (hflags : l.flags = flags0) : Comes l x (Jvm.Cond.code x code maxLocals ret :: tables_1) room_1 (fun tb e args s => Calls_1 tb e args s ∧ rest_1 tb e args s ∧ Pre_1 tb e args s)
    (fun _ _ args s o t => lw_Q args s o t) := by
  intro p e ha hc hk s m args below hf hfit hheap happ hpre
  obtain ⟨b, xs, hP⟩ := lw_pre_spec hpre.2.2 hpre.2.1
  obtain ⟨k, o, h1, h2, h3, hQ⟩ := lw_walk l hflags b xs p e ha hc hk s m args below hf ((Spec.applies_iff_loose hf).mp happ).1 hP trivial
  exact ⟨k, o, h1, h2, h3, hQ⟩
theorem lw_frame {s t : State} {o : Outcome} {args : Array Value} (h : Framed s o t [] 600000 7302250) :
    Framed s o t (fieldLocs frame_1_writes args s ++ arrayLocs frame_1_arrays args s ++ staticLocs frame_1_statics s) 600000 7302250 := h
theorem lw_limb (L : Cond) (hL : ∀ (args : Array Value) (s t : State), L.after args s (.returned (some (.int 1))) t = true) :
    ArmFor flags0 classFile x code maxLocals ret World_1 tables_1 room_1 Calls_1 rest_1 Pre_1
      (fun tb e a s o t => postC L tb e a s o t ∧ Framed s o t (fieldLocs frame_1_writes a s ++ arrayLocs frame_1_arrays a s ++ staticLocs frame_1_statics s) 600000 7302250) := by
  intro l hflags _ _ p e ha hc hk s m args below hf hfit hheap happ hpre
  obtain ⟨k, o, h1, h2, h3, rfl, hF⟩ := lw_comes l hflags p e ha hc hk s m args below hf hfit hheap happ hpre
  exact ⟨k, _, h1, h2, h3, hL args s _, lw_frame hF⟩
theorem i_vc : Claimed_1_1 ∧ Claimed_1_2 := ⟨lw_limb limb_1_1 (fun args s t => by simp [limb_1_1, Cond.after, Cond.holds, Cond.value]), lw_limb limb_1_2 (fun args s t => Cond.after_iff.mpr (by
  first | (rw [show limb_1_2 = Cond.eq .result (.int 1) from rfl, Cond.eq_ints (x := 1) (y := 1) rfl rfl]; simp; done) | (simp [limb_1_2, Cond.value, Term.eval]; done)))⟩
