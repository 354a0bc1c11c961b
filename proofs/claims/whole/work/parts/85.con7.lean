/-! The constructor of RoofNet, the walk: by program (wip/whole/mk_con7.py). -/
noncomputable def tF (k : Nat) : Int := (FT.getD k 0).toInt
theorem tF_ok : ∀ k, k < 96 → 32 ≤ (FT.getD k 0).toInt ∧ (FT.getD k 0).toInt ≤ 126 := by decide +kernel
def GoodC (h : Hp) : Prop := ROk h.2.2 ∧ h.2.2 0 6 = 24 ∧ h.2.2 0 7 = 31 ∧ ((pAll tF 96 97 0 v0).1 = -4 → cV h 24 = (pAll tF 96 97 0 v0).2 ∧ NOk h 24) ∧ h.1 1 1 = 0 ∧ h.1 5 1 = 0 ∧ h.1 5 2 = 0
def TI (n : Nat) (h : Hp) : Prop := h.2 = h0c.2 ∧ (∀ i, i ≠ 1 → i ≠ 2 → ∀ j, h.1 i j = 0) ∧ h.1 1 1 = (n : Int) ∧ ∀ k, k < n → h.1 2 k = tF k
theorem TI.app {n : Nat} {h : Hp} (q : TI n h) : TI (n + 1) (cApp h (tF n)) := by
  obtain ⟨q1, q2, q3, q4⟩ := q
  have e : (h.1 1 1).toNat = n := by omega
  refine ⟨q1, fun i a b j => ?_, ?_, fun k hk => ?_⟩
  · show (if i = 1 ∧ j = 1 then h.1 1 1 + 1 else if i = 2 ∧ j = (h.1 1 1).toNat then tF n else h.1 i j) = 0
    rw [if_neg (fun z => a z.1), if_neg (fun z => b z.1)]
    exact q2 i a b j
  · show (if (1 : Nat) = 1 ∧ (1 : Nat) = 1 then h.1 1 1 + 1 else (if (1 : Nat) = 2 ∧ (1 : Nat) = (h.1 1 1).toNat then tF n else h.1 1 1)) = _
    rw [if_pos ⟨rfl, rfl⟩, q3]
    omega
  · show (if (2 : Nat) = 1 ∧ k = 1 then h.1 1 1 + 1 else if (2 : Nat) = 2 ∧ k = (h.1 1 1).toNat then tF n else h.1 2 k) = tF k
    rw [if_neg (fun z => absurd z.1 (by decide)), e]
    by_cases hkn : k = n
    · rw [if_pos ⟨rfl, hkn⟩, hkn]
    · rw [if_neg (fun z => hkn z.2)]
      exact q4 k (by omega)
theorem TI.ok {n : Nat} {h : Hp} (q : TI n h) : ROk h.2.2 := by rw [show h.2.2 = R0c from congrArg Prod.snd q.1]; exact R0c_ok
theorem c7_tail {h : Hp} (hT : TI 96 h) : Ev mX7_init 6 123 [some (.ref 0), some (iv 96)] [] h (fun v h' => v = none ∧ GoodC h') := by
  have hR := hT.ok
  have e2 : h.2.2 = R0c := congrArg Prod.snd hT.1
  have hX : TX h tF 96 := ⟨hT.2.2.1, by decide, fun k hk => ⟨hT.2.2.2 k hk, tF_ok k hk⟩⟩
  refine Ev.aload_n dX7_init_123 (Eq.refl 124) rfl ?_
  refine Ev.getR dX7_init_124 (Eq.refl 127) fg_X7_19 rfl rfl (rX7_1 hR) ?_
  refine Ev.aload_n dX7_init_127 (Eq.refl 128) rfl ?_
  refine Ev.getR (r := 24) dX7_init_128 (Eq.refl 131) fg_X7_54 rfl rfl (by rw [e2]; rfl) ?_
  refine Ev.aload_n dX7_init_131 (Eq.refl 132) rfl ?_
  refine Ev.getR dX7_init_132 (Eq.refl 135) fg_X7_10 rfl rfl (rX7_0 hR) ?_
  refine Ev.cv2I dX7_init_135 (Eq.refl 138) cw_X7_77 (Nat.le_of_ble_eq_true rfl) (by decide) rfl rfl rfl (Nat.le_of_ble_eq_true rfl) (c_readInto (n := 24) hR (by decide) hX) (fun x g hp => ?_)
  obtain ⟨hF, hx⟩ := hp
  have hq := hx 97 (by decide)
  refine Ev.popV dX7_init_138 (Eq.refl 139) rfl ?_
  refine Ev.aload_n dX7_init_139 (Eq.refl 140) rfl ?_
  refine Ev.getR dX7_init_140 (Eq.refl 143) fg_X7_10 rfl rfl (rX7_0 (hF.2.2 ▸ hR)) ?_
  refine Ev.iconst dX7_init_143 (Eq.refl 144) ?_
  refine Ev.putI dX7_init_144 (Eq.refl 147) fp_X7_81 rfl rfl (Or.inl rfl) ?_
  refine Ev.vret dX7_init_147 rfl ⟨rfl, hF.2.2 ▸ hR, by show g.2.2 0 6 = 24; rw [hF.2.2, e2]; rfl, by show g.2.2 0 7 = 31; rw [hF.2.2, e2]; rfl, fun z => ?_, by show (if (1 : Nat) = 1 ∧ (1 : Nat) = 1 then (0 : Int) else g.1 1 1) = 0; rw [if_pos ⟨rfl, rfl⟩], ?_, ?_⟩
  · have w := hq.2 (hq.1.trans z)
    have sm : sameN (hI g 1 1 0) g 24 := fun i hi j => hI_ni (by omega)
    exact ⟨sm.V.trans w.1, sm.ok w.2⟩
  · rw [hI_ni (by decide), hF.1 5 (by unfold inR inN; omega)]
    exact hT.2.1 5 (by decide) (by decide) 1
  · rw [hI_ni (by decide), hF.1 5 (by unfold inR inN; omega)]
    exact hT.2.1 5 (by decide) (by decide) 2
theorem P_kept {D : va_G} {w : va_W} {H H1 : Heap} (h : va_P D vwCl w H) (q : ∀ a : Nat, a < H.size → H1[a]? = H[a]?) : va_P D vwCl w H1 := fun k x hk => (h k x hk).kept (q x.1 (h k x hk).lt)
theorem c7_loop {p : Program} {l : Launch} {e : Env} {R : Room} {s : State} {m : MethodId} {args : Array Value} {below : List Frame} {meth : Method} {c : Code} {cells slots : Nat} {Q : State → Prop} {D : va_G} {A : Nat → Prop} {cy ad : Nat → Nat} {ka kv : Nat} {kf : Option Nat} {tx : String} (F : CF RX7 cX7_init 2 p s m args meth c) (hR : 5 ≤ R.frames ∧ 300 ≤ R.locals) (hc : cells ≤ R.cells ∧ slots ≤ R.slots) (hX : SX A ka kv kf s s.heap) (hZ : vk_R RX7 61 tx ka s) (hK : va_K D vwCl (kty cLy cy) s)
    (kk : ∀ (h : Hp) (H : Heap) (locs : List Loc) (ls : Array Slot), TI 96 h → va_P D vwCl (lws cLy cy ad h) H → va_D A (lws cLy cy ad h) → va_S A s.heap H locs → lv_has ls 2 [(1, iv 96), (0, .ref (ad 0))] → W p l e R s m args below meth c H locs cells slots Q (F0 m 123 ls [])) :
    ∀ (k n : Nat), n + k = 96 → ∀ (h : Hp) (H : Heap) (locs : List Loc) (ls : Array Slot), TI n h → va_P D vwCl (lws cLy cy ad h) H → va_D A (lws cLy cy ad h) → va_S A s.heap H locs → lv_has ls 2 [(1, iv n), (0, .ref (ad 0))] → W p l e R s m args below meth c H locs cells slots Q (F0 m 94 ls []) := by
  have hF := F
  obtain ⟨hx, hb, hml, hr, hlk, hown, hts, hN, hin⟩ := F
  have hSF : SF RX7 cX7_init 2 p s m args c A ka kv kf := ⟨hx, hb, hml, hown, hts, hX⟩
  intro k
  induction k with
  | zero =>
    intro n hn h H locs ls hT hP hD hS hl
    have hn : n = 96 := hn
    subst hn
    refine lv_iload_n hx hb dX7_init_94 rfl (lv_at hl 0 rfl) ?_
    refine va_ldcS hx hb hown hZ dX7_init_95 ?_
    refine s_callV (as := []) (rest := [iv 96]) hSF hl.1 cw_X7_63 (s_length l) rfl rfl rfl (by decide) ⟨by omega, by omega⟩ hc hS dX7_init_97 (fun H locs hS hz hq => ?_)
    refine lv_icmp_ge (tgt := 123) hx hb dX7_init_100 (by decide) (fun _ => ?_) (fun c => absurd (by decide) c)
    exact kk h H locs ls hT (P_kept hP hq) hD hS hl
  | succ k ih =>
    intro n hn h H locs ls hT hP hD hS hl
    have hn6 : n < 96 := by omega
    refine lv_iload_n hx hb dX7_init_94 rfl (lv_at hl 0 rfl) ?_
    refine va_ldcS hx hb hown hZ dX7_init_95 ?_
    refine s_callV (as := []) (rest := [iv n]) hSF hl.1 cw_X7_63 (s_length l) rfl rfl rfl (Nat.le_of_ble_eq_true rfl) ⟨by omega, by omega⟩ hc hS dX7_init_97 (fun H1 locs hS hz hq => ?_)
    have hP := P_kept hP hq
    refine lv_icmp_ge (tgt := 123) hx hb dX7_init_100 (by decide) (fun c => ?_) (fun _ => ?_)
    · have := Int32.le_iff_toInt_le.mp c
      rw [i32T ⟨by omega, by omega⟩, show (96 : Int32).toInt = 96 from rfl] at this
      omega
    refine lv_aload_n hx hb dX7_init_103 rfl (lv_at hl 1 rfl) ?_
    obtain ⟨C, T, N, g1, g2, g3, g4⟩ := fg_X7_10
    refine va_get (v := .ref (ad 1)) hx hb hts g3 hown hK hP 0 (lws_get (Ly := cLy) (d := .inl (7, [2, 2, 2, 2, 2, 2, 2, 2])) rfl) g1 0 g2 (hts _ g4) (fun _ q => q) (by show some (Value.ref (ad (h.2.2 0 0))) = _; rw [rX7_0 hT.ok]) dX7_init_104 ?_
    refine va_ldcS hx hb hown hZ dX7_init_107 ?_
    refine lv_iload_n hx hb dX7_init_109 rfl (lv_at hl 0 rfl) ?_
    refine s_callV (as := [iv n]) (rest := [.ref (ad 1)]) hSF hl.1 cw_X7_69 (s_charAt l hn6) rfl rfl rfl (Nat.le_of_ble_eq_true rfl) ⟨by omega, by omega⟩ hc hS dX7_init_110 (fun H1 locs hS hz hq => ?_)
    have hP := P_kept hP hq
    have ec : (.int (FT.getD n 0) : Value) = iv (tF n) := congrArg Value.int (Int32.ofInt_toInt _).symm
    have hct := FT_ok n hn6
    refine rgV (as := [iv (tF n)]) (rest := []) (id := 1) (ad := ad) (h := h) (M' := mX1_append) hx hb hml hown hts hN hl.1 cw_X7_73 rfl (Nat.le_of_ble_eq_true rfl) (d' := 0) ⟨by omega, by omega⟩ hc (ci := 1) (ks := [2, 0]) rfl rfl (by decide) (by rw [show (some (Value.int (FT.getD n 0))).toList = [iv (tF n)] from by rw [ec]; rfl]; rfl) hK hP hD hS dX7_init_113 (c_append hT.ok (by rw [hT.2.2.1]; omega) ⟨hct.2.2.1, hct.2.2.2⟩) (fun v h' H1 locs hpost hP hD hS hz hq => ?_)
    obtain ⟨x, rfl, hx2⟩ := hpost
    have hh : h' = cApp h (tF n) := by
      rcases hx2 with ⟨_, _, z⟩ | ⟨z, _, _⟩
      · exact z
      · exact absurd (by rw [hT.2.2.1]; omega) z
    subst hh
    refine lv_pop hx hb dX7_init_116 rfl ?_
    refine lv_iinc (v := Int32.ofInt ((n + 1 : Nat) : Int)) (lv' := [(1, iv ((n + 1 : Nat) : Int)), (0, .ref (ad 0))]) hx hb dX7_init_117 hl (k := 0) rfl (by rw [← Int32.ofInt_add]; rfl) (by decide) rfl (fun ls hl => ?_)
    refine lv_goto (tgt := 94) hx hb dX7_init_120 (by decide) ?_
    exact ih (n + 1) (by omega) _ _ _ _ hT.app hP hD hS hl
def txF : String := "f0,0,10;f40,0,30;f0,40,20;f40,40,5;u9;u4;s0,4,1,30;s1,4,2,0;s4,5,3,18;s2,5,1,25;s3,5,2,30;r60,5;"
def EX7 (ka kv : Nat) (kf : Option Nat) (A : Nat → Prop) (U : State) : Prop := vk_R RX7 61 txF ka U ∧ SX A ka kv kf U U.heap
theorem EX7_blind {ka kv : Nat} {kf : Option Nat} : EBl (EX7 ka kv kf) := fun A U V e1 e2 q => ⟨vk_R.same e1.symm q.1, by rw [← e2]; exact SX.moved (u := U) (U := V) (by rw [← e1]; exact Vm.Alike.refl U.vm) q.2⟩
set_option maxHeartbeats 1000000 in
theorem k_X7 (l : Launch) (D : va_G) (cy : Nat → ClassId) (ka kv : Nat) (kf : Option Nat) : RgMet l cLy (EX7 ka kv kf) GoodC D cy yX7_init cX7_init 2 (rmc 6 96 1482) 7 bX7 96 1482 := by
  refine RgMet.of (own := RX7) (by decide) rfl rfl (by decide) ?_
  intro a0 p e s m args below meth c ls F hl hK hAO hE hP hD
  have hx := F.1
  have hb := F.2.1
  have hS : va_S (va_A [(a0, .inr (7, bX7))] s.heap.size) s.heap s.heap [] := va_S.rf
  have hA : ∀ q, s.heap.size ≤ q → (va_A [(a0, .inr (7, bX7))] s.heap.size) q := fun q h => Or.inr h
  refine lv_aload_n hx hb dX7_init_0 rfl (lv_at hl 0 rfl) ?_
  refine Woi F hl.1 oi_X7 (by decide) (by decide) dX7_init_1 ?_
  refine lv_aload_n hx hb dX7_init_4 rfl (lv_at hl 0 rfl) ?_
  refine Wsub (y := yX1_init) (ci := 1) (C := RX1) (T := TX1) (N := 2) (fs := bX1) F hl.1 rfl inbX1 tyX1 tyX1_ok (fun j hj => by match j, hj with | 0, _ => rfl | 1, _ => rfl | k + 2, h => exact absurd h (by omega)) cl_X7_7 in_X1 iz_X1 iz_X1 (Or.inr hAO.2.1) ci_X1 cc_X1 rfl ⟨by decide +kernel, by decide +kernel, by decide +kernel⟩ (k_X1 l D cy) rfl rfl ⟨Nat.le_of_ble_eq_true rfl, Nat.le_of_ble_eq_true rfl⟩ (Nat.le_of_ble_eq_true rfl) (Nat.le_of_ble_eq_true rfl) (Nat.le_of_ble_eq_true rfl) hK hAO hP hD hS hA dX7_init_5 dX7_init_8 dX7_init_9 (fun adl H locs hP hD hS => ?_)
  have hP : va_P D vwCl ([(a0, .inr (7, [.null, .null, .null, .null, .null, .null, .null, .null]))] ++ wLet cy adl) H := hP
  have hD : va_D (va_A [(a0, .inr (7, bX7))] s.heap.size) ([(a0, .inr (7, [.null, .null, .null, .null, .null, .null, .null, .null]))] ++ wLet cy adl) := hD
  refine Wputf F ff_X7_10 hK hP hD hS rfl rfl (Nat.le_of_ble_eq_true rfl) dX7_init_12 (fun H locs hP hD hS => ?_)
  have hP : va_P D vwCl ([(a0, .inr (7, [.ref (adl 0), .null, .null, .null, .null, .null, .null, .null]))] ++ wLet cy adl) H := hP
  have hD : va_D (va_A [(a0, .inr (7, bX7))] s.heap.size) ([(a0, .inr (7, [.ref (adl 0), .null, .null, .null, .null, .null, .null, .null]))] ++ wLet cy adl) := hD
  refine lv_aload_n hx hb dX7_init_15 rfl (lv_at hl 0 rfl) ?_
  refine Wsub (y := yX5_init) (ci := 5) (C := RX5) (T := TX5) (N := 1) (fs := bX5) F hl.1 rfl inbX5 tyX5 tyX5_ok (fun j hj => by match j, hj with | 0, _ => rfl | k + 1, h => exact absurd h (by omega)) cl_X7_16 in_X5 iz_X5 iz_X5 (Or.inr hAO.2.2.1) ci_X5 cc_X5 rfl ⟨by decide +kernel, by decide +kernel, by decide +kernel⟩ (k_X5 l D cy) rfl rfl ⟨Nat.le_of_ble_eq_true rfl, Nat.le_of_ble_eq_true rfl⟩ (Nat.le_of_ble_eq_true rfl) (Nat.le_of_ble_eq_true rfl) (Nat.le_of_ble_eq_true rfl) hK hAO hP hD hS hA dX7_init_16 dX7_init_19 dX7_init_20 (fun adr H locs hP hD hS => ?_)
  have hP : va_P D vwCl ([(a0, .inr (7, [.ref (adl 0), .null, .null, .null, .null, .null, .null, .null]))] ++ wLet cy adl ++ wRdr cy adr) H := hP
  have hD : va_D (va_A [(a0, .inr (7, bX7))] s.heap.size) ([(a0, .inr (7, [.ref (adl 0), .null, .null, .null, .null, .null, .null, .null]))] ++ wLet cy adl ++ wRdr cy adr) := hD
  refine Wputf F ff_X7_19 hK hP hD hS rfl rfl (Nat.le_of_ble_eq_true rfl) dX7_init_23 (fun H locs hP hD hS => ?_)
  have hP : va_P D vwCl ([(a0, .inr (7, [.ref (adl 0), .ref (adr 0), .null, .null, .null, .null, .null, .null]))] ++ wLet cy adl ++ wRdr cy adr) H := hP
  have hD : va_D (va_A [(a0, .inr (7, bX7))] s.heap.size) ([(a0, .inr (7, [.ref (adl 0), .ref (adr 0), .null, .null, .null, .null, .null, .null]))] ++ wLet cy adl ++ wRdr cy adr) := hD
  refine lv_aload_n hx hb dX7_init_26 rfl (lv_at hl 0 rfl) ?_
  refine Wsub (y := yX3_init) (ci := 3) (C := RX3) (T := TX3) (N := 3) (fs := bX3) F hl.1 rfl inbX3 tyX3 tyX3_ok (fun j hj => by match j, hj with | 0, _ => rfl | 1, _ => rfl | 2, _ => rfl | k + 3, h => exact absurd h (by omega)) cl_X7_23 in_X3 iz_X3 iz_X3 (Or.inl ml_X7_25) ci_X3 cc_X3 rfl ⟨by decide +kernel, by decide +kernel, by decide +kernel⟩ (k_X3 l D cy) rfl rfl ⟨Nat.le_of_ble_eq_true rfl, Nat.le_of_ble_eq_true rfl⟩ (Nat.le_of_ble_eq_true rfl) (Nat.le_of_ble_eq_true rfl) (Nat.le_of_ble_eq_true rfl) hK hAO hP hD hS hA dX7_init_27 dX7_init_30 dX7_init_31 (fun adp H locs hP hD hS => ?_)
  have hP : va_P D vwCl ([(a0, .inr (7, [.ref (adl 0), .ref (adr 0), .null, .null, .null, .null, .null, .null]))] ++ wLet cy adl ++ wRdr cy adr ++ wPst cy adp) H := hP
  have hD : va_D (va_A [(a0, .inr (7, bX7))] s.heap.size) ([(a0, .inr (7, [.ref (adl 0), .ref (adr 0), .null, .null, .null, .null, .null, .null]))] ++ wLet cy adl ++ wRdr cy adr ++ wPst cy adp) := hD
  refine Wputf F ff_X7_26 hK hP hD hS rfl rfl (Nat.le_of_ble_eq_true rfl) dX7_init_34 (fun H locs hP hD hS => ?_)
  have hP : va_P D vwCl ([(a0, .inr (7, [.ref (adl 0), .ref (adr 0), .ref (adp 0), .null, .null, .null, .null, .null]))] ++ wLet cy adl ++ wRdr cy adr ++ wPst cy adp) H := hP
  have hD : va_D (va_A [(a0, .inr (7, bX7))] s.heap.size) ([(a0, .inr (7, [.ref (adl 0), .ref (adr 0), .ref (adp 0), .null, .null, .null, .null, .null]))] ++ wLet cy adl ++ wRdr cy adr ++ wPst cy adp) := hD
  refine lv_aload_n hx hb dX7_init_37 rfl (lv_at hl 0 rfl) ?_
  refine Wsub (y := yX4_init) (ci := 4) (C := RX4) (T := TX4) (N := 6) (fs := bX4) F hl.1 rfl inbX4 tyX4 tyX4_ok (fun j hj => by match j, hj with | 0, _ => rfl | 1, _ => rfl | 2, _ => rfl | 3, _ => rfl | 4, _ => rfl | 5, _ => rfl | k + 6, h => exact absurd h (by omega)) cl_X7_30 in_X4 iz_X4 iz_X4 (Or.inr hAO.2.2.2.2.1) ci_X4 cc_X4 rfl ⟨by decide +kernel, by decide +kernel, by decide +kernel⟩ (k_X4 l D cy) rfl rfl ⟨Nat.le_of_ble_eq_true rfl, Nat.le_of_ble_eq_true rfl⟩ (Nat.le_of_ble_eq_true rfl) (Nat.le_of_ble_eq_true rfl) (Nat.le_of_ble_eq_true rfl) hK hAO hP hD hS hA dX7_init_38 dX7_init_41 dX7_init_42 (fun ads H locs hP hD hS => ?_)
  have hP : va_P D vwCl ([(a0, .inr (7, [.ref (adl 0), .ref (adr 0), .ref (adp 0), .null, .null, .null, .null, .null]))] ++ wLet cy adl ++ wRdr cy adr ++ wPst cy adp ++ wShp cy ads) H := hP
  have hD : va_D (va_A [(a0, .inr (7, bX7))] s.heap.size) ([(a0, .inr (7, [.ref (adl 0), .ref (adr 0), .ref (adp 0), .null, .null, .null, .null, .null]))] ++ wLet cy adl ++ wRdr cy adr ++ wPst cy adp ++ wShp cy ads) := hD
  refine Wputf F ff_X7_33 hK hP hD hS rfl rfl (Nat.le_of_ble_eq_true rfl) dX7_init_45 (fun H locs hP hD hS => ?_)
  have hP : va_P D vwCl ([(a0, .inr (7, [.ref (adl 0), .ref (adr 0), .ref (adp 0), .ref (ads 0), .null, .null, .null, .null]))] ++ wLet cy adl ++ wRdr cy adr ++ wPst cy adp ++ wShp cy ads) H := hP
  have hD : va_D (va_A [(a0, .inr (7, bX7))] s.heap.size) ([(a0, .inr (7, [.ref (adl 0), .ref (adr 0), .ref (adp 0), .ref (ads 0), .null, .null, .null, .null]))] ++ wLet cy adl ++ wRdr cy adr ++ wPst cy adp ++ wShp cy ads) := hD
  refine lv_aload_n hx hb dX7_init_48 rfl (lv_at hl 0 rfl) ?_
  refine Wsub (y := yX6_init) (ci := 6) (C := RX6) (T := TX6) (N := 4) (fs := bX6) F hl.1 rfl inbX6 tyX6 tyX6_ok (fun j hj => by match j, hj with | 0, _ => rfl | 1, _ => rfl | 2, _ => rfl | 3, _ => rfl | k + 4, h => exact absurd h (by omega)) cl_X7_37 in_X6 iz_X6 iz_X6 (Or.inr hAO.2.2.2.2.2.1) ci_X6 cc_X6 rfl ⟨by decide +kernel, by decide +kernel, by decide +kernel⟩ (k_X6 l D cy) rfl rfl ⟨Nat.le_of_ble_eq_true rfl, Nat.le_of_ble_eq_true rfl⟩ (Nat.le_of_ble_eq_true rfl) (Nat.le_of_ble_eq_true rfl) (Nat.le_of_ble_eq_true rfl) hK hAO hP hD hS hA dX7_init_49 dX7_init_52 dX7_init_53 (fun adt H locs hP hD hS => ?_)
  have hP : va_P D vwCl ([(a0, .inr (7, [.ref (adl 0), .ref (adr 0), .ref (adp 0), .ref (ads 0), .null, .null, .null, .null]))] ++ wLet cy adl ++ wRdr cy adr ++ wPst cy adp ++ wShp cy ads ++ wTri cy adt) H := hP
  have hD : va_D (va_A [(a0, .inr (7, bX7))] s.heap.size) ([(a0, .inr (7, [.ref (adl 0), .ref (adr 0), .ref (adp 0), .ref (ads 0), .null, .null, .null, .null]))] ++ wLet cy adl ++ wRdr cy adr ++ wPst cy adp ++ wShp cy ads ++ wTri cy adt) := hD
  refine Wputf F ff_X7_40 hK hP hD hS rfl rfl (Nat.le_of_ble_eq_true rfl) dX7_init_56 (fun H locs hP hD hS => ?_)
  have hP : va_P D vwCl ([(a0, .inr (7, [.ref (adl 0), .ref (adr 0), .ref (adp 0), .ref (ads 0), .ref (adt 0), .null, .null, .null]))] ++ wLet cy adl ++ wRdr cy adr ++ wPst cy adp ++ wShp cy ads ++ wTri cy adt) H := hP
  have hD : va_D (va_A [(a0, .inr (7, bX7))] s.heap.size) ([(a0, .inr (7, [.ref (adl 0), .ref (adr 0), .ref (adp 0), .ref (ads 0), .ref (adt 0), .null, .null, .null]))] ++ wLet cy adl ++ wRdr cy adr ++ wPst cy adp ++ wShp cy ads ++ wTri cy adt) := hD
  refine lv_aload_n hx hb dX7_init_59 rfl (lv_at hl 0 rfl) ?_
  refine Wsub (y := yX0_init) (ci := 0) (C := RX0) (T := TX0) (N := 10) (fs := bX0) F hl.1 rfl inbX0 tyX0 tyX0_ok (fun j hj => by match j, hj with | 0, _ => rfl | 1, _ => rfl | 2, _ => rfl | 3, _ => rfl | 4, _ => rfl | 5, _ => rfl | 6, _ => rfl | 7, _ => rfl | 8, _ => rfl | 9, _ => rfl | k + 10, h => exact absurd h (by omega)) cl_X7_44 in_X0 iz_X0 iz_X0 (Or.inr hAO.2.2.2.2.2.2.2.2.1) ci_X0 cc_X0 rfl ⟨by decide +kernel, by decide +kernel, by decide +kernel⟩ (k_X0 l D cy) rfl rfl ⟨Nat.le_of_ble_eq_true rfl, Nat.le_of_ble_eq_true rfl⟩ (Nat.le_of_ble_eq_true rfl) (Nat.le_of_ble_eq_true rfl) (Nat.le_of_ble_eq_true rfl) hK hAO hP hD hS hA dX7_init_60 dX7_init_63 dX7_init_64 (fun adc H locs hP hD hS => ?_)
  have hP : va_P D vwCl ([(a0, .inr (7, [.ref (adl 0), .ref (adr 0), .ref (adp 0), .ref (ads 0), .ref (adt 0), .null, .null, .null]))] ++ wLet cy adl ++ wRdr cy adr ++ wPst cy adp ++ wShp cy ads ++ wTri cy adt ++ wCut cy adc) H := hP
  have hD : va_D (va_A [(a0, .inr (7, bX7))] s.heap.size) ([(a0, .inr (7, [.ref (adl 0), .ref (adr 0), .ref (adp 0), .ref (ads 0), .ref (adt 0), .null, .null, .null]))] ++ wLet cy adl ++ wRdr cy adr ++ wPst cy adp ++ wShp cy ads ++ wTri cy adt ++ wCut cy adc) := hD
  refine Wputf F ff_X7_47 hK hP hD hS rfl rfl (Nat.le_of_ble_eq_true rfl) dX7_init_67 (fun H locs hP hD hS => ?_)
  have hP : va_P D vwCl ([(a0, .inr (7, [.ref (adl 0), .ref (adr 0), .ref (adp 0), .ref (ads 0), .ref (adt 0), .ref (adc 0), .null, .null]))] ++ wLet cy adl ++ wRdr cy adr ++ wPst cy adp ++ wShp cy ads ++ wTri cy adt ++ wCut cy adc) H := hP
  have hD : va_D (va_A [(a0, .inr (7, bX7))] s.heap.size) ([(a0, .inr (7, [.ref (adl 0), .ref (adr 0), .ref (adp 0), .ref (ads 0), .ref (adt 0), .ref (adc 0), .null, .null]))] ++ wLet cy adl ++ wRdr cy adr ++ wPst cy adp ++ wShp cy ads ++ wTri cy adt ++ wCut cy adc) := hD
  refine lv_aload_n hx hb dX7_init_70 rfl (lv_at hl 0 rfl) ?_
  refine Wsub (y := yX2_init) (ci := 2) (C := RX2) (T := TX2) (N := 12) (fs := bX2) F hl.1 rfl inbX2 tyX2 tyX2_ok (fun j hj => by match j, hj with | 0, _ => rfl | 1, _ => rfl | 2, _ => rfl | 3, _ => rfl | 4, _ => rfl | 5, _ => rfl | 6, _ => rfl | 7, _ => rfl | 8, _ => rfl | 9, _ => rfl | 10, _ => rfl | 11, _ => rfl | k + 12, h => exact absurd h (by omega)) cl_X7_51 in_X2 iz_X2 iz_X2 (Or.inr hAO.2.2.2.2.2.2.2.2.2) ci_X2 cc_X2 rfl ⟨by decide +kernel, by decide +kernel, by decide +kernel⟩ (k_X2 l D cy) rfl rfl ⟨Nat.le_of_ble_eq_true rfl, Nat.le_of_ble_eq_true rfl⟩ (Nat.le_of_ble_eq_true rfl) (Nat.le_of_ble_eq_true rfl) (Nat.le_of_ble_eq_true rfl) hK hAO hP hD hS hA dX7_init_71 dX7_init_74 dX7_init_75 (fun adn H locs hP hD hS => ?_)
  have hP : va_P D vwCl ([(a0, .inr (7, [.ref (adl 0), .ref (adr 0), .ref (adp 0), .ref (ads 0), .ref (adt 0), .ref (adc 0), .null, .null]))] ++ wLet cy adl ++ wRdr cy adr ++ wPst cy adp ++ wShp cy ads ++ wTri cy adt ++ wCut cy adc ++ wNet cy adn) H := hP
  have hD : va_D (va_A [(a0, .inr (7, bX7))] s.heap.size) ([(a0, .inr (7, [.ref (adl 0), .ref (adr 0), .ref (adp 0), .ref (ads 0), .ref (adt 0), .ref (adc 0), .null, .null]))] ++ wLet cy adl ++ wRdr cy adr ++ wPst cy adp ++ wShp cy ads ++ wTri cy adt ++ wCut cy adc ++ wNet cy adn) := hD
  refine Wputn F fp_X7_54 hK hP hD hS rfl rfl (Nat.le_of_ble_eq_true rfl) dX7_init_78 (fun H locs hP hD hS => ?_)
  have hP : va_P D vwCl ([(a0, .inr (7, [.ref (adl 0), .ref (adr 0), .ref (adp 0), .ref (ads 0), .ref (adt 0), .ref (adc 0), .ref (adn 0), .null]))] ++ wLet cy adl ++ wRdr cy adr ++ wPst cy adp ++ wShp cy ads ++ wTri cy adt ++ wCut cy adc ++ wNet cy adn) H := hP
  have hD : va_D (va_A [(a0, .inr (7, bX7))] s.heap.size) ([(a0, .inr (7, [.ref (adl 0), .ref (adr 0), .ref (adp 0), .ref (ads 0), .ref (adt 0), .ref (adc 0), .ref (adn 0), .null]))] ++ wLet cy adl ++ wRdr cy adr ++ wPst cy adp ++ wShp cy ads ++ wTri cy adt ++ wCut cy adc ++ wNet cy adn) := hD
  refine lv_aload_n hx hb dX7_init_81 rfl (lv_at hl 0 rfl) ?_
  refine Wsub (y := yX2_init) (ci := 2) (C := RX2) (T := TX2) (N := 12) (fs := bX2) F hl.1 rfl inbX2 tyX2 tyX2_ok (fun j hj => by match j, hj with | 0, _ => rfl | 1, _ => rfl | 2, _ => rfl | 3, _ => rfl | 4, _ => rfl | 5, _ => rfl | 6, _ => rfl | 7, _ => rfl | 8, _ => rfl | 9, _ => rfl | 10, _ => rfl | 11, _ => rfl | k + 12, h => exact absurd h (by omega)) cl_X7_51 in_X2 iz_X2 iz_X2 (Or.inr hAO.2.2.2.2.2.2.2.2.2) ci_X2 cc_X2 rfl ⟨by decide +kernel, by decide +kernel, by decide +kernel⟩ (k_X2 l D cy) rfl rfl ⟨Nat.le_of_ble_eq_true rfl, Nat.le_of_ble_eq_true rfl⟩ (Nat.le_of_ble_eq_true rfl) (Nat.le_of_ble_eq_true rfl) (Nat.le_of_ble_eq_true rfl) hK hAO hP hD hS hA dX7_init_82 dX7_init_85 dX7_init_86 (fun adf H locs hP hD hS => ?_)
  have hP : va_P D vwCl ([(a0, .inr (7, [.ref (adl 0), .ref (adr 0), .ref (adp 0), .ref (ads 0), .ref (adt 0), .ref (adc 0), .ref (adn 0), .null]))] ++ wLet cy adl ++ wRdr cy adr ++ wPst cy adp ++ wShp cy ads ++ wTri cy adt ++ wCut cy adc ++ wNet cy adn ++ wNet cy adf) H := hP
  have hD : va_D (va_A [(a0, .inr (7, bX7))] s.heap.size) ([(a0, .inr (7, [.ref (adl 0), .ref (adr 0), .ref (adp 0), .ref (ads 0), .ref (adt 0), .ref (adc 0), .ref (adn 0), .null]))] ++ wLet cy adl ++ wRdr cy adr ++ wPst cy adp ++ wShp cy ads ++ wTri cy adt ++ wCut cy adc ++ wNet cy adn ++ wNet cy adf) := hD
  refine Wputn F fp_X7_58 hK hP hD hS rfl rfl (Nat.le_of_ble_eq_true rfl) dX7_init_89 (fun H locs hP hD hS => ?_)
  have hP : va_P D vwCl ([(a0, .inr (7, [.ref (adl 0), .ref (adr 0), .ref (adp 0), .ref (ads 0), .ref (adt 0), .ref (adc 0), .ref (adn 0), .ref (adf 0)]))] ++ wLet cy adl ++ wRdr cy adr ++ wPst cy adp ++ wShp cy ads ++ wTri cy adt ++ wCut cy adc ++ wNet cy adn ++ wNet cy adf) H := hP
  have hD : va_D (va_A [(a0, .inr (7, bX7))] s.heap.size) ([(a0, .inr (7, [.ref (adl 0), .ref (adr 0), .ref (adp 0), .ref (ads 0), .ref (adt 0), .ref (adc 0), .ref (adn 0), .ref (adf 0)]))] ++ wLet cy adl ++ wRdr cy adr ++ wPst cy adp ++ wShp cy ads ++ wTri cy adt ++ wCut cy adc ++ wNet cy adn ++ wNet cy adf) := hD
  have hP := con7_P hP
  have hD := con7_D hD
  refine lv_iconst hx hb dX7_init_92 (v := Int32.ofInt 0) rfl ?_
  refine lv_istore_n (lv' := [(1, iv 0), (0, .ref a0)]) hx hb dX7_init_93 rfl hl (by decide) rfl (fun ls hl => ?_)
  refine c7_loop (ad := ad7 a0 adl adr adp ads adt adc adn adf) (tx := txF) F ⟨by decide, by decide⟩ ⟨Nat.le_of_ble_eq_true rfl, Nat.le_of_ble_eq_true rfl⟩ hE.2 hE.1 hK (fun h H locs ls hT hP hD hS hl => ?_) 96 0 rfl h0c H locs ls ⟨rfl, fun _ _ _ _ => rfl, rfl, fun k hk => absurd hk (by omega)⟩ hP hD hS hl
  refine Ev.tail (M := mX7_init) (dp := 6) (st := []) rfl F (Nat.le_refl _) (c7_tail hT) (fun v h q => q) rfl hK hP hD hS ⟨hl.1, hl.2.1, fun i v hv => ?_⟩
  match i, hv with
  | 0, hv => cases hv; exact lv_at hl 1 rfl
  | 1, hv => cases hv; exact lv_at hl 0 rfl
  | i + 2, hv => simp at hv
