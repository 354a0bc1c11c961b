/-! The constructor of Past: by program (wip/whole/mk_con5.py). -/
theorem P_cons {D : va_G} {q : Nat × va_E} {w : va_W} {H : Heap} (h : va_at D vwCl q H) (g : va_P D vwCl w H) : va_P D vwCl (q :: w) H := fun k x hk => by
  match k, hk with
  | 0, hk => cases hk; exact h
  | k + 1, hk => exact g k x hk
theorem P_tl {D : va_G} {q : Nat × va_E} {w : va_W} {H : Heap} (h : va_P D vwCl (q :: w) H) : va_P D vwCl w H := fun k x hk => h (k + 1) x hk
section CON3
variable {p : Program} {l : Launch} {e : Env} {R : Room} {s : State} {m : MethodId} {args : Array Value} {below : List Frame} {meth : Method} {c : Code} {H H0 : Heap} {locs : List Loc} {cells slots : Nat} {Q : State → Prop}
variable {cc : ByteArray} {pc nL : Nat} {ls : Array Slot} {rest : List Value} {D : va_G} {A : Nat → Prop} {ws : va_W} {cy : Nat → ClassId} {own : String}
theorem Wnewq {idx n : Nat} (F : CF own cc nL p s m args meth c) (w1 : Cond.classLink own idx RX2 ∈ BG) (hK : va_K D vwCl (kty cLy cy) s) (hAO : AOs s) (hP : va_P D vwCl ws H) (hD : va_D A ws) (hS : va_S A H0 H locs) (hA : ∀ q, H0.size ≤ q → A q) (hn : n < 1000) (hcells : cells + 1 ≤ R.cells) (hslots : slots + n ≤ R.slots) (hdg : decode cc pc = .ok (.anewarray idx, 3))
    (kk : ∀ (q : Nat) (H1 : Heap), va_P D vwCl (ws ++ [(q, .inl (cy 3, n, .inr (.inr (.inr (.inr (fun _ => none))))))]) H1 → va_D A (ws ++ [(q, .inl (cy 3, n, .inr (.inr (.inr (.inr (fun _ => none))))))]) → va_S A H0 H1 locs → W p l e R s m args below meth c H1 locs (cells + 1) (slots + n) Q (F0 m (pc + 3) ls (.ref q :: rest))) : W p l e R s m args below meth c H locs cells slots Q (F0 m pc ls (iv (n : Int) :: rest)) := by
  obtain ⟨hx, hb, hml, hr, hlk, hown, hts, hN, hin⟩ := F
  refine va_newq (C := "RoofNet$Net") hx hb hown (hts _ w1) hAO.1.1 hK hP hD hS hA (fun q => ?_) (by rw [i32cl (by omega) (by omega)]; omega) (by omega) hcells hslots hdg (fun q cA H1 hK1 hP1 hD1 hS1 => ?_)
  · have := (i32lt ⟨by omega, by omega⟩ i32z).mp q
    omega
  · have h1 := (hK.2 3 _ (kty_get (Ly := cLy) rfl)).2
    have h2 := (hK1.2 (kty cLy cy).length (cA, .object "RoofNet$Net") (by rw [List.getElem?_append_right (Nat.le_refl _), Nat.sub_self]; rfl)).2
    have e := RA_un h1 h2
    subst e
    exact kk q H1 hP1 hD1 hS1
theorem Wget {idx ci k a : Nat} {v : Value} {fs : List Value} {tys : List (ClassId × FieldType)} (F : CF own cc nL p s m args meth c) (hf : FG own idx ci k) (hK : va_K D vwCl tys s) (hP : va_P D vwCl ((a, .inr (ci, fs)) :: ws) H) (hv : fs[k]? = some v) (hdg : decode cc pc = .ok (.getfield idx, 3)) (kk : W p l e R s m args below meth c H locs cells slots Q (F0 m (pc + 3) ls (v :: rest))) : W p l e R s m args below meth c H locs cells slots Q (F0 m pc ls (.ref a :: rest)) := by
  obtain ⟨hx, hb, hml, hr, hlk, hown, hts, hN, hin⟩ := F
  obtain ⟨C, T, N, g1, g2, g3, g4⟩ := hf
  exact va_get hx hb hts g3 hown hK hP 0 rfl g1 k g2 (hts _ g4) (fun _ q => q) hv hdg kk
end CON3
abbrev bX3 : List Value := [.null, iv 0, iv 0]
abbrev wPst (cy : Nat → ClassId) (ad : Nat → Nat) : va_W := (ad 0, .inr (3, [.ref (ad 1), iv 0, iv 0])) :: (ad 1, .inl (cy 3, 6, .inr (.inr (.inr (.inr (fun k => some (ad (2 + 7 * k)))))))) :: (wNet cy (fun i => ad (2 + i)) ++ wNet cy (fun i => ad (9 + i)) ++ wNet cy (fun i => ad (16 + i)) ++ wNet cy (fun i => ad (23 + i)) ++ wNet cy (fun i => ad (30 + i)) ++ wNet cy (fun i => ad (37 + i)))
set_option maxHeartbeats 400000 in
theorem k_X3 (l : Launch) (D : va_G) (cy : Nat → ClassId) : CoMet l D cy yX3_init cX3_init 2 (rmc 2 43 654) 3 bX3 (wPst cy) 43 654 := by
  refine CoMet.of (own := RX3) (by decide) rfl rfl (by decide) ?_
  intro a0 p e s m args below meth c ls F hl hK hAO hP hD
  have hx := F.1
  have hb := F.2.1
  have hS : va_S (va_A [(a0, .inr (3, bX3))] s.heap.size) s.heap s.heap [] := va_S.rf
  have hA : ∀ q, s.heap.size ≤ q → va_A [(a0, .inr (3, bX3))] s.heap.size q := fun q h => Or.inr h
  generalize hH : s.heap = H at hP
  rw [hH] at hS
  subst hH
  refine lv_aload_n hx hb dX3_init_0 rfl (lv_at hl 0 rfl) ?_
  refine Woi F hl.1 oi_X3 (by decide) (by decide) dX3_init_1 ?_
  refine lv_aload_n hx hb dX3_init_4 rfl (lv_at hl 0 rfl) ?_
  refine lv_bipush hx hb dX3_init_5 (v := Int32.ofInt 6) (by decide) ?_
  refine Wnewq (n := 6) F cl_X3_9 hK hAO hP hD hS hA (by decide) (Nat.le_of_ble_eq_true rfl) (Nat.le_of_ble_eq_true rfl) dX3_init_7 (fun q1 H hP hD hS => ?_)
  have hP : va_P D vwCl ((a0, .inr (3, [.null, iv 0, iv 0])) :: (q1, .inl (cy 3, 6, .inr (.inr (.inr (.inr (fun _ => none)))))) :: []) H := hP
  have hD : va_D (va_A [(a0, .inr (3, bX3))] s.heap.size) ((a0, .inr (3, [.null, iv 0, iv 0])) :: (q1, .inl (cy 3, 6, .inr (.inr (.inr (.inr (fun _ => none)))))) :: []) := hD
  refine Wputf F ff_X3_11 hK hP hD hS rfl rfl (Nat.le_of_ble_eq_true rfl) dX3_init_10 (fun H locs hP hD hS => ?_)
  have hP : va_P D vwCl ((a0, .inr (3, [.ref q1, iv 0, iv 0])) :: (q1, .inl (cy 3, 6, .inr (.inr (.inr (.inr (fun _ => none)))))) :: []) H := hP
  have hD : va_D (va_A [(a0, .inr (3, bX3))] s.heap.size) ((a0, .inr (3, [.ref q1, iv 0, iv 0])) :: (q1, .inl (cy 3, 6, .inr (.inr (.inr (.inr (fun _ => none)))))) :: []) := hD
  refine lv_iconst hx hb dX3_init_13 (v := Int32.ofInt 0) rfl ?_
  refine lv_istore_n (lv' := [(1, iv 0), (0, .ref a0)]) hx hb dX3_init_14 rfl hl (by decide) rfl (fun ls hl => ?_)
  refine lv_iload_n hx hb dX3_init_15 rfl (lv_at hl 0 rfl) ?_
  refine lv_bipush hx hb dX3_init_16 (v := Int32.ofInt 6) (by decide) ?_
  refine lv_icmp_ge (tgt := 40) hx hb dX3_init_18 (by decide) (fun c => absurd c (by decide)) (fun _ => ?_)
  refine lv_aload_n hx hb dX3_init_21 rfl (lv_at hl 1 rfl) ?_
  refine Wget F fg_X3_11 hK hP rfl dX3_init_22 ?_
  refine lv_iload_n hx hb dX3_init_25 rfl (lv_at hl 0 rfl) ?_
  refine Wsub (y := yX2_init) (ci := 2) (C := RX2) (T := TX2) (N := 12) (fs := bX2) F hl.1 rfl inbX2 tyX2 tyX2_ok (fun j hj => by match j, hj with | 0, _ => rfl | 1, _ => rfl | 2, _ => rfl | 3, _ => rfl | 4, _ => rfl | 5, _ => rfl | 6, _ => rfl | 7, _ => rfl | 8, _ => rfl | 9, _ => rfl | 10, _ => rfl | 11, _ => rfl | k + 12, h => exact absurd h (by omega)) cl_X3_9 in_X2 iz_X2 iz_X2 (Or.inr hAO.2.2.2.1) ci_X2 cc_X2 rfl ⟨by decide +kernel, by decide +kernel, by decide +kernel⟩ (k_X2 l D cy) rfl rfl ⟨Nat.le_of_ble_eq_true rfl, Nat.le_of_ble_eq_true rfl⟩ (Nat.le_of_ble_eq_true rfl) (Nat.le_of_ble_eq_true rfl) (Nat.le_of_ble_eq_true rfl) hK hAO hP hD hS hA dX3_init_26 dX3_init_29 dX3_init_30 (fun ad1 H locs hP hD hS => ?_)
  have hP : va_P D vwCl ((a0, .inr (3, [.ref q1, iv 0, iv 0])) :: (q1, .inl (cy 3, 6, .inr (.inr (.inr (.inr (fun _ => none)))))) :: (wNet cy ad1)) H := hP
  have hD : va_D (va_A [(a0, .inr (3, bX3))] s.heap.size) ((a0, .inr (3, [.ref q1, iv 0, iv 0])) :: (q1, .inl (cy 3, 6, .inr (.inr (.inr (.inr (fun _ => none)))))) :: (wNet cy ad1)) := hD
  refine va_astq hx hb hK hP hD hS 1 3 2 2 (cA := cy 3) (r := (RX2, TX2, 12)) rfl rfl rfl rfl (i := Int32.ofInt 0) (i32in (by decide) (by decide) (by decide)) dX3_init_33 (fun H locs hP hD hS => ?_)
  have hP : va_P D vwCl ((a0, .inr (3, [.ref q1, iv 0, iv 0])) :: (q1, .inl (cy 3, 6, .inr (.inr (.inr (.inr (va_up (fun _ => none) 0 (some (ad1 0)))))))) :: (wNet cy ad1)) H := hP
  have hD : va_D (va_A [(a0, .inr (3, bX3))] s.heap.size) ((a0, .inr (3, [.ref q1, iv 0, iv 0])) :: (q1, .inl (cy 3, 6, .inr (.inr (.inr (.inr (va_up (fun _ => none) 0 (some (ad1 0)))))))) :: (wNet cy ad1)) := hD
  refine lv_iinc (v := Int32.ofInt 1) (lv' := [(1, iv 1), (0, .ref a0)]) hx hb dX3_init_34 hl (k := 0) rfl rfl (by decide) rfl (fun ls hl => ?_)
  refine lv_goto (tgt := 15) hx hb dX3_init_37 (by decide) ?_
  refine lv_iload_n hx hb dX3_init_15 rfl (lv_at hl 0 rfl) ?_
  refine lv_bipush hx hb dX3_init_16 (v := Int32.ofInt 6) (by decide) ?_
  refine lv_icmp_ge (tgt := 40) hx hb dX3_init_18 (by decide) (fun c => absurd c (by decide)) (fun _ => ?_)
  refine lv_aload_n hx hb dX3_init_21 rfl (lv_at hl 1 rfl) ?_
  refine Wget F fg_X3_11 hK hP rfl dX3_init_22 ?_
  refine lv_iload_n hx hb dX3_init_25 rfl (lv_at hl 0 rfl) ?_
  refine Wsub (y := yX2_init) (ci := 2) (C := RX2) (T := TX2) (N := 12) (fs := bX2) F hl.1 rfl inbX2 tyX2 tyX2_ok (fun j hj => by match j, hj with | 0, _ => rfl | 1, _ => rfl | 2, _ => rfl | 3, _ => rfl | 4, _ => rfl | 5, _ => rfl | 6, _ => rfl | 7, _ => rfl | 8, _ => rfl | 9, _ => rfl | 10, _ => rfl | 11, _ => rfl | k + 12, h => exact absurd h (by omega)) cl_X3_9 in_X2 iz_X2 iz_X2 (Or.inr hAO.2.2.2.1) ci_X2 cc_X2 rfl ⟨by decide +kernel, by decide +kernel, by decide +kernel⟩ (k_X2 l D cy) rfl rfl ⟨Nat.le_of_ble_eq_true rfl, Nat.le_of_ble_eq_true rfl⟩ (Nat.le_of_ble_eq_true rfl) (Nat.le_of_ble_eq_true rfl) (Nat.le_of_ble_eq_true rfl) hK hAO hP hD hS hA dX3_init_26 dX3_init_29 dX3_init_30 (fun ad2 H locs hP hD hS => ?_)
  have hP : va_P D vwCl ((a0, .inr (3, [.ref q1, iv 0, iv 0])) :: (q1, .inl (cy 3, 6, .inr (.inr (.inr (.inr (va_up (fun _ => none) 0 (some (ad1 0)))))))) :: (wNet cy ad1 ++ wNet cy ad2)) H := hP
  have hD : va_D (va_A [(a0, .inr (3, bX3))] s.heap.size) ((a0, .inr (3, [.ref q1, iv 0, iv 0])) :: (q1, .inl (cy 3, 6, .inr (.inr (.inr (.inr (va_up (fun _ => none) 0 (some (ad1 0)))))))) :: (wNet cy ad1 ++ wNet cy ad2)) := hD
  refine va_astq hx hb hK hP hD hS 1 3 9 2 (cA := cy 3) (r := (RX2, TX2, 12)) rfl rfl rfl rfl (i := Int32.ofInt 1) (i32in (by decide) (by decide) (by decide)) dX3_init_33 (fun H locs hP hD hS => ?_)
  have hP : va_P D vwCl ((a0, .inr (3, [.ref q1, iv 0, iv 0])) :: (q1, .inl (cy 3, 6, .inr (.inr (.inr (.inr (va_up (va_up (fun _ => none) 0 (some (ad1 0))) 1 (some (ad2 0)))))))) :: (wNet cy ad1 ++ wNet cy ad2)) H := hP
  have hD : va_D (va_A [(a0, .inr (3, bX3))] s.heap.size) ((a0, .inr (3, [.ref q1, iv 0, iv 0])) :: (q1, .inl (cy 3, 6, .inr (.inr (.inr (.inr (va_up (va_up (fun _ => none) 0 (some (ad1 0))) 1 (some (ad2 0)))))))) :: (wNet cy ad1 ++ wNet cy ad2)) := hD
  refine lv_iinc (v := Int32.ofInt 2) (lv' := [(1, iv 2), (0, .ref a0)]) hx hb dX3_init_34 hl (k := 0) rfl rfl (by decide) rfl (fun ls hl => ?_)
  refine lv_goto (tgt := 15) hx hb dX3_init_37 (by decide) ?_
  refine lv_iload_n hx hb dX3_init_15 rfl (lv_at hl 0 rfl) ?_
  refine lv_bipush hx hb dX3_init_16 (v := Int32.ofInt 6) (by decide) ?_
  refine lv_icmp_ge (tgt := 40) hx hb dX3_init_18 (by decide) (fun c => absurd c (by decide)) (fun _ => ?_)
  refine lv_aload_n hx hb dX3_init_21 rfl (lv_at hl 1 rfl) ?_
  refine Wget F fg_X3_11 hK hP rfl dX3_init_22 ?_
  refine lv_iload_n hx hb dX3_init_25 rfl (lv_at hl 0 rfl) ?_
  refine Wsub (y := yX2_init) (ci := 2) (C := RX2) (T := TX2) (N := 12) (fs := bX2) F hl.1 rfl inbX2 tyX2 tyX2_ok (fun j hj => by match j, hj with | 0, _ => rfl | 1, _ => rfl | 2, _ => rfl | 3, _ => rfl | 4, _ => rfl | 5, _ => rfl | 6, _ => rfl | 7, _ => rfl | 8, _ => rfl | 9, _ => rfl | 10, _ => rfl | 11, _ => rfl | k + 12, h => exact absurd h (by omega)) cl_X3_9 in_X2 iz_X2 iz_X2 (Or.inr hAO.2.2.2.1) ci_X2 cc_X2 rfl ⟨by decide +kernel, by decide +kernel, by decide +kernel⟩ (k_X2 l D cy) rfl rfl ⟨Nat.le_of_ble_eq_true rfl, Nat.le_of_ble_eq_true rfl⟩ (Nat.le_of_ble_eq_true rfl) (Nat.le_of_ble_eq_true rfl) (Nat.le_of_ble_eq_true rfl) hK hAO hP hD hS hA dX3_init_26 dX3_init_29 dX3_init_30 (fun ad3 H locs hP hD hS => ?_)
  have hP : va_P D vwCl ((a0, .inr (3, [.ref q1, iv 0, iv 0])) :: (q1, .inl (cy 3, 6, .inr (.inr (.inr (.inr (va_up (va_up (fun _ => none) 0 (some (ad1 0))) 1 (some (ad2 0)))))))) :: (wNet cy ad1 ++ wNet cy ad2 ++ wNet cy ad3)) H := hP
  have hD : va_D (va_A [(a0, .inr (3, bX3))] s.heap.size) ((a0, .inr (3, [.ref q1, iv 0, iv 0])) :: (q1, .inl (cy 3, 6, .inr (.inr (.inr (.inr (va_up (va_up (fun _ => none) 0 (some (ad1 0))) 1 (some (ad2 0)))))))) :: (wNet cy ad1 ++ wNet cy ad2 ++ wNet cy ad3)) := hD
  refine va_astq hx hb hK hP hD hS 1 3 16 2 (cA := cy 3) (r := (RX2, TX2, 12)) rfl rfl rfl rfl (i := Int32.ofInt 2) (i32in (by decide) (by decide) (by decide)) dX3_init_33 (fun H locs hP hD hS => ?_)
  have hP : va_P D vwCl ((a0, .inr (3, [.ref q1, iv 0, iv 0])) :: (q1, .inl (cy 3, 6, .inr (.inr (.inr (.inr (va_up (va_up (va_up (fun _ => none) 0 (some (ad1 0))) 1 (some (ad2 0))) 2 (some (ad3 0)))))))) :: (wNet cy ad1 ++ wNet cy ad2 ++ wNet cy ad3)) H := hP
  have hD : va_D (va_A [(a0, .inr (3, bX3))] s.heap.size) ((a0, .inr (3, [.ref q1, iv 0, iv 0])) :: (q1, .inl (cy 3, 6, .inr (.inr (.inr (.inr (va_up (va_up (va_up (fun _ => none) 0 (some (ad1 0))) 1 (some (ad2 0))) 2 (some (ad3 0)))))))) :: (wNet cy ad1 ++ wNet cy ad2 ++ wNet cy ad3)) := hD
  refine lv_iinc (v := Int32.ofInt 3) (lv' := [(1, iv 3), (0, .ref a0)]) hx hb dX3_init_34 hl (k := 0) rfl rfl (by decide) rfl (fun ls hl => ?_)
  refine lv_goto (tgt := 15) hx hb dX3_init_37 (by decide) ?_
  refine lv_iload_n hx hb dX3_init_15 rfl (lv_at hl 0 rfl) ?_
  refine lv_bipush hx hb dX3_init_16 (v := Int32.ofInt 6) (by decide) ?_
  refine lv_icmp_ge (tgt := 40) hx hb dX3_init_18 (by decide) (fun c => absurd c (by decide)) (fun _ => ?_)
  refine lv_aload_n hx hb dX3_init_21 rfl (lv_at hl 1 rfl) ?_
  refine Wget F fg_X3_11 hK hP rfl dX3_init_22 ?_
  refine lv_iload_n hx hb dX3_init_25 rfl (lv_at hl 0 rfl) ?_
  refine Wsub (y := yX2_init) (ci := 2) (C := RX2) (T := TX2) (N := 12) (fs := bX2) F hl.1 rfl inbX2 tyX2 tyX2_ok (fun j hj => by match j, hj with | 0, _ => rfl | 1, _ => rfl | 2, _ => rfl | 3, _ => rfl | 4, _ => rfl | 5, _ => rfl | 6, _ => rfl | 7, _ => rfl | 8, _ => rfl | 9, _ => rfl | 10, _ => rfl | 11, _ => rfl | k + 12, h => exact absurd h (by omega)) cl_X3_9 in_X2 iz_X2 iz_X2 (Or.inr hAO.2.2.2.1) ci_X2 cc_X2 rfl ⟨by decide +kernel, by decide +kernel, by decide +kernel⟩ (k_X2 l D cy) rfl rfl ⟨Nat.le_of_ble_eq_true rfl, Nat.le_of_ble_eq_true rfl⟩ (Nat.le_of_ble_eq_true rfl) (Nat.le_of_ble_eq_true rfl) (Nat.le_of_ble_eq_true rfl) hK hAO hP hD hS hA dX3_init_26 dX3_init_29 dX3_init_30 (fun ad4 H locs hP hD hS => ?_)
  have hP : va_P D vwCl ((a0, .inr (3, [.ref q1, iv 0, iv 0])) :: (q1, .inl (cy 3, 6, .inr (.inr (.inr (.inr (va_up (va_up (va_up (fun _ => none) 0 (some (ad1 0))) 1 (some (ad2 0))) 2 (some (ad3 0)))))))) :: (wNet cy ad1 ++ wNet cy ad2 ++ wNet cy ad3 ++ wNet cy ad4)) H := hP
  have hD : va_D (va_A [(a0, .inr (3, bX3))] s.heap.size) ((a0, .inr (3, [.ref q1, iv 0, iv 0])) :: (q1, .inl (cy 3, 6, .inr (.inr (.inr (.inr (va_up (va_up (va_up (fun _ => none) 0 (some (ad1 0))) 1 (some (ad2 0))) 2 (some (ad3 0)))))))) :: (wNet cy ad1 ++ wNet cy ad2 ++ wNet cy ad3 ++ wNet cy ad4)) := hD
  refine va_astq hx hb hK hP hD hS 1 3 23 2 (cA := cy 3) (r := (RX2, TX2, 12)) rfl rfl rfl rfl (i := Int32.ofInt 3) (i32in (by decide) (by decide) (by decide)) dX3_init_33 (fun H locs hP hD hS => ?_)
  have hP : va_P D vwCl ((a0, .inr (3, [.ref q1, iv 0, iv 0])) :: (q1, .inl (cy 3, 6, .inr (.inr (.inr (.inr (va_up (va_up (va_up (va_up (fun _ => none) 0 (some (ad1 0))) 1 (some (ad2 0))) 2 (some (ad3 0))) 3 (some (ad4 0)))))))) :: (wNet cy ad1 ++ wNet cy ad2 ++ wNet cy ad3 ++ wNet cy ad4)) H := hP
  have hD : va_D (va_A [(a0, .inr (3, bX3))] s.heap.size) ((a0, .inr (3, [.ref q1, iv 0, iv 0])) :: (q1, .inl (cy 3, 6, .inr (.inr (.inr (.inr (va_up (va_up (va_up (va_up (fun _ => none) 0 (some (ad1 0))) 1 (some (ad2 0))) 2 (some (ad3 0))) 3 (some (ad4 0)))))))) :: (wNet cy ad1 ++ wNet cy ad2 ++ wNet cy ad3 ++ wNet cy ad4)) := hD
  refine lv_iinc (v := Int32.ofInt 4) (lv' := [(1, iv 4), (0, .ref a0)]) hx hb dX3_init_34 hl (k := 0) rfl rfl (by decide) rfl (fun ls hl => ?_)
  refine lv_goto (tgt := 15) hx hb dX3_init_37 (by decide) ?_
  refine lv_iload_n hx hb dX3_init_15 rfl (lv_at hl 0 rfl) ?_
  refine lv_bipush hx hb dX3_init_16 (v := Int32.ofInt 6) (by decide) ?_
  refine lv_icmp_ge (tgt := 40) hx hb dX3_init_18 (by decide) (fun c => absurd c (by decide)) (fun _ => ?_)
  refine lv_aload_n hx hb dX3_init_21 rfl (lv_at hl 1 rfl) ?_
  refine Wget F fg_X3_11 hK hP rfl dX3_init_22 ?_
  refine lv_iload_n hx hb dX3_init_25 rfl (lv_at hl 0 rfl) ?_
  refine Wsub (y := yX2_init) (ci := 2) (C := RX2) (T := TX2) (N := 12) (fs := bX2) F hl.1 rfl inbX2 tyX2 tyX2_ok (fun j hj => by match j, hj with | 0, _ => rfl | 1, _ => rfl | 2, _ => rfl | 3, _ => rfl | 4, _ => rfl | 5, _ => rfl | 6, _ => rfl | 7, _ => rfl | 8, _ => rfl | 9, _ => rfl | 10, _ => rfl | 11, _ => rfl | k + 12, h => exact absurd h (by omega)) cl_X3_9 in_X2 iz_X2 iz_X2 (Or.inr hAO.2.2.2.1) ci_X2 cc_X2 rfl ⟨by decide +kernel, by decide +kernel, by decide +kernel⟩ (k_X2 l D cy) rfl rfl ⟨Nat.le_of_ble_eq_true rfl, Nat.le_of_ble_eq_true rfl⟩ (Nat.le_of_ble_eq_true rfl) (Nat.le_of_ble_eq_true rfl) (Nat.le_of_ble_eq_true rfl) hK hAO hP hD hS hA dX3_init_26 dX3_init_29 dX3_init_30 (fun ad5 H locs hP hD hS => ?_)
  have hP : va_P D vwCl ((a0, .inr (3, [.ref q1, iv 0, iv 0])) :: (q1, .inl (cy 3, 6, .inr (.inr (.inr (.inr (va_up (va_up (va_up (va_up (fun _ => none) 0 (some (ad1 0))) 1 (some (ad2 0))) 2 (some (ad3 0))) 3 (some (ad4 0)))))))) :: (wNet cy ad1 ++ wNet cy ad2 ++ wNet cy ad3 ++ wNet cy ad4 ++ wNet cy ad5)) H := hP
  have hD : va_D (va_A [(a0, .inr (3, bX3))] s.heap.size) ((a0, .inr (3, [.ref q1, iv 0, iv 0])) :: (q1, .inl (cy 3, 6, .inr (.inr (.inr (.inr (va_up (va_up (va_up (va_up (fun _ => none) 0 (some (ad1 0))) 1 (some (ad2 0))) 2 (some (ad3 0))) 3 (some (ad4 0)))))))) :: (wNet cy ad1 ++ wNet cy ad2 ++ wNet cy ad3 ++ wNet cy ad4 ++ wNet cy ad5)) := hD
  refine va_astq hx hb hK hP hD hS 1 3 30 2 (cA := cy 3) (r := (RX2, TX2, 12)) rfl rfl rfl rfl (i := Int32.ofInt 4) (i32in (by decide) (by decide) (by decide)) dX3_init_33 (fun H locs hP hD hS => ?_)
  have hP : va_P D vwCl ((a0, .inr (3, [.ref q1, iv 0, iv 0])) :: (q1, .inl (cy 3, 6, .inr (.inr (.inr (.inr (va_up (va_up (va_up (va_up (va_up (fun _ => none) 0 (some (ad1 0))) 1 (some (ad2 0))) 2 (some (ad3 0))) 3 (some (ad4 0))) 4 (some (ad5 0)))))))) :: (wNet cy ad1 ++ wNet cy ad2 ++ wNet cy ad3 ++ wNet cy ad4 ++ wNet cy ad5)) H := hP
  have hD : va_D (va_A [(a0, .inr (3, bX3))] s.heap.size) ((a0, .inr (3, [.ref q1, iv 0, iv 0])) :: (q1, .inl (cy 3, 6, .inr (.inr (.inr (.inr (va_up (va_up (va_up (va_up (va_up (fun _ => none) 0 (some (ad1 0))) 1 (some (ad2 0))) 2 (some (ad3 0))) 3 (some (ad4 0))) 4 (some (ad5 0)))))))) :: (wNet cy ad1 ++ wNet cy ad2 ++ wNet cy ad3 ++ wNet cy ad4 ++ wNet cy ad5)) := hD
  refine lv_iinc (v := Int32.ofInt 5) (lv' := [(1, iv 5), (0, .ref a0)]) hx hb dX3_init_34 hl (k := 0) rfl rfl (by decide) rfl (fun ls hl => ?_)
  refine lv_goto (tgt := 15) hx hb dX3_init_37 (by decide) ?_
  refine lv_iload_n hx hb dX3_init_15 rfl (lv_at hl 0 rfl) ?_
  refine lv_bipush hx hb dX3_init_16 (v := Int32.ofInt 6) (by decide) ?_
  refine lv_icmp_ge (tgt := 40) hx hb dX3_init_18 (by decide) (fun c => absurd c (by decide)) (fun _ => ?_)
  refine lv_aload_n hx hb dX3_init_21 rfl (lv_at hl 1 rfl) ?_
  refine Wget F fg_X3_11 hK hP rfl dX3_init_22 ?_
  refine lv_iload_n hx hb dX3_init_25 rfl (lv_at hl 0 rfl) ?_
  refine Wsub (y := yX2_init) (ci := 2) (C := RX2) (T := TX2) (N := 12) (fs := bX2) F hl.1 rfl inbX2 tyX2 tyX2_ok (fun j hj => by match j, hj with | 0, _ => rfl | 1, _ => rfl | 2, _ => rfl | 3, _ => rfl | 4, _ => rfl | 5, _ => rfl | 6, _ => rfl | 7, _ => rfl | 8, _ => rfl | 9, _ => rfl | 10, _ => rfl | 11, _ => rfl | k + 12, h => exact absurd h (by omega)) cl_X3_9 in_X2 iz_X2 iz_X2 (Or.inr hAO.2.2.2.1) ci_X2 cc_X2 rfl ⟨by decide +kernel, by decide +kernel, by decide +kernel⟩ (k_X2 l D cy) rfl rfl ⟨Nat.le_of_ble_eq_true rfl, Nat.le_of_ble_eq_true rfl⟩ (Nat.le_of_ble_eq_true rfl) (Nat.le_of_ble_eq_true rfl) (Nat.le_of_ble_eq_true rfl) hK hAO hP hD hS hA dX3_init_26 dX3_init_29 dX3_init_30 (fun ad6 H locs hP hD hS => ?_)
  have hP : va_P D vwCl ((a0, .inr (3, [.ref q1, iv 0, iv 0])) :: (q1, .inl (cy 3, 6, .inr (.inr (.inr (.inr (va_up (va_up (va_up (va_up (va_up (fun _ => none) 0 (some (ad1 0))) 1 (some (ad2 0))) 2 (some (ad3 0))) 3 (some (ad4 0))) 4 (some (ad5 0)))))))) :: (wNet cy ad1 ++ wNet cy ad2 ++ wNet cy ad3 ++ wNet cy ad4 ++ wNet cy ad5 ++ wNet cy ad6)) H := hP
  have hD : va_D (va_A [(a0, .inr (3, bX3))] s.heap.size) ((a0, .inr (3, [.ref q1, iv 0, iv 0])) :: (q1, .inl (cy 3, 6, .inr (.inr (.inr (.inr (va_up (va_up (va_up (va_up (va_up (fun _ => none) 0 (some (ad1 0))) 1 (some (ad2 0))) 2 (some (ad3 0))) 3 (some (ad4 0))) 4 (some (ad5 0)))))))) :: (wNet cy ad1 ++ wNet cy ad2 ++ wNet cy ad3 ++ wNet cy ad4 ++ wNet cy ad5 ++ wNet cy ad6)) := hD
  refine va_astq hx hb hK hP hD hS 1 3 37 2 (cA := cy 3) (r := (RX2, TX2, 12)) rfl rfl rfl rfl (i := Int32.ofInt 5) (i32in (by decide) (by decide) (by decide)) dX3_init_33 (fun H locs hP hD hS => ?_)
  have hP : va_P D vwCl ((a0, .inr (3, [.ref q1, iv 0, iv 0])) :: (q1, .inl (cy 3, 6, .inr (.inr (.inr (.inr (va_up (va_up (va_up (va_up (va_up (va_up (fun _ => none) 0 (some (ad1 0))) 1 (some (ad2 0))) 2 (some (ad3 0))) 3 (some (ad4 0))) 4 (some (ad5 0))) 5 (some (ad6 0)))))))) :: (wNet cy ad1 ++ wNet cy ad2 ++ wNet cy ad3 ++ wNet cy ad4 ++ wNet cy ad5 ++ wNet cy ad6)) H := hP
  have hD : va_D (va_A [(a0, .inr (3, bX3))] s.heap.size) ((a0, .inr (3, [.ref q1, iv 0, iv 0])) :: (q1, .inl (cy 3, 6, .inr (.inr (.inr (.inr (va_up (va_up (va_up (va_up (va_up (va_up (fun _ => none) 0 (some (ad1 0))) 1 (some (ad2 0))) 2 (some (ad3 0))) 3 (some (ad4 0))) 4 (some (ad5 0))) 5 (some (ad6 0)))))))) :: (wNet cy ad1 ++ wNet cy ad2 ++ wNet cy ad3 ++ wNet cy ad4 ++ wNet cy ad5 ++ wNet cy ad6)) := hD
  refine lv_iinc (v := Int32.ofInt 6) (lv' := [(1, iv 6), (0, .ref a0)]) hx hb dX3_init_34 hl (k := 0) rfl rfl (by decide) rfl (fun ls hl => ?_)
  refine lv_goto (tgt := 15) hx hb dX3_init_37 (by decide) ?_
  refine lv_iload_n hx hb dX3_init_15 rfl (lv_at hl 0 rfl) ?_
  refine lv_bipush hx hb dX3_init_16 (v := Int32.ofInt 6) (by decide) ?_
  refine lv_icmp_ge (tgt := 40) hx hb dX3_init_18 (by decide) (fun _ => ?_) (fun c => absurd (by decide) c)
  refine Wret F (fun i => if i = 0 then a0 else if i = 1 then q1 else if i < 9 then ad1 (i - 2) else if i < 16 then ad2 (i - 9) else if i < 23 then ad3 (i - 16) else if i < 30 then ad4 (i - 23) else if i < 37 then ad5 (i - 30) else ad6 (i - 37)) rfl rfl ?_ ?_ hS dX3_init_40
  · refine P_cons (hP 0 _ rfl) (P_cons (at_q (fun k hk => ?_) (hP 1 _ rfl)) (P_tl (P_tl hP)))
    match k, hk with
    | 0, _ => rfl
    | 1, _ => rfl
    | 2, _ => rfl
    | 3, _ => rfl
    | 4, _ => rfl
    | 5, _ => rfl
    | k + 6, hk => exact absurd hk (by omega)
  · exact hD.set (p := 1) (a := q1) (e := .inl (cy 3, 6, .inr (.inr (.inr (.inr (fun k => some ((fun i => if i = 0 then a0 else if i = 1 then q1 else if i < 9 then ad1 (i - 2) else if i < 16 then ad2 (i - 9) else if i < 23 then ad3 (i - 16) else if i < 30 then ad4 (i - 23) else if i < 37 then ad5 (i - 30) else ad6 (i - 37)) (2 + 7 * k)))))))) rfl
