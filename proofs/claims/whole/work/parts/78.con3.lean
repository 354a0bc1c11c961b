/-! Constructors that make arrays alone: by program (wip/whole/mk_leaf.py). -/
theorem zI_int (n : Nat) (cA : ClassId) : vp_cell cA (n, .inl (fun _ => Int32.ofInt 0)) = arrV cA n (fun _ => defaultValue .int) := by rw [show defaultValue .int = .int (Int32.ofInt 0) from rfl]; rfl
theorem zI_char (n : Nat) (cA : ClassId) : vp_cell cA (n, .inl (fun _ => Int32.ofInt 0)) = arrV cA n (fun _ => defaultValue .char) := by rw [show defaultValue .char = .int (Int32.ofInt 0) from rfl]; rfl
theorem zI_byte (n : Nat) (cA : ClassId) : vp_cell cA (n, .inl (fun _ => Int32.ofInt 0)) = arrV cA n (fun _ => defaultValue .byte) := by rw [show defaultValue .byte = .int (Int32.ofInt 0) from rfl]; rfl
theorem zI_boolean (n : Nat) (cA : ClassId) : vp_cell cA (n, .inl (fun _ => Int32.ofInt 0)) = arrV cA n (fun _ => defaultValue .boolean) := by rw [show defaultValue .boolean = .int (Int32.ofInt 0) from rfl]; rfl
theorem zL (n : Nat) (cA : ClassId) : vp_cell cA (n, .inr (.inl (fun _ => Int64.ofInt 0))) = arrV cA n (fun _ => defaultValue .long) := by rw [show defaultValue .long = .long (Int64.ofInt 0) from rfl]; rfl
abbrev bX1 : List Value := [.null, iv 0]
abbrev wLet (cy : Nat → ClassId) (ad : Nat → Nat) : va_W := [(ad 0, .inr (1, [.ref (ad 1), iv 0])), (ad 1, .inl (cy 2, 200, .inl (fun _ => Int32.ofInt 0)))]
set_option maxHeartbeats 400000 in
theorem k_X1 (l : Launch) (D : va_G) (cy : Nat → ClassId) : CoMet l D cy yX1_init cX1_init 1 (rmc 1 1 200) 1 bX1 (wLet cy) 1 200 := by
  refine CoMet.of (own := RX1) (by decide) rfl rfl (by decide) ?_
  intro a0 p e s m args below meth c ls F hl hK hAO hP hD
  have hx := F.1
  have hb := F.2.1
  have hS : va_S (va_A [(a0, .inr (1, bX1))] s.heap.size) s.heap s.heap [] := va_S.rf
  have hA : ∀ q, s.heap.size ≤ q → va_A [(a0, .inr (1, bX1))] s.heap.size q := fun q h => Or.inr h
  generalize hH : s.heap = H at hP
  rw [hH] at hS
  subst hH
  refine lv_aload_n hx hb dX1_init_0 rfl (lv_at hl 0 rfl) ?_
  refine Woi F hl.1 oi_X1 (by decide) (by decide) dX1_init_1 ?_
  refine lv_aload_n hx hb dX1_init_4 rfl (lv_at hl 0 rfl) ?_
  refine lv_sipush hx hb dX1_init_5 (v := Int32.ofInt 200) (by decide) ?_
  refine Wnewa (atype := .char) (ty := .char) (Ly := cLy) (i := 2) (n := 200) (a0 := (200, .inl (fun _ => Int32.ofInt 0))) F ac_char rfl rfl hK hP hD hS hA (zI_char 200) (by decide) (by decide) (Nat.le_of_ble_eq_true rfl) (Nat.le_of_ble_eq_true rfl) dX1_init_8 (fun q1 H hP hD hS => ?_)
  have hP : va_P D vwCl [(a0, .inr (1, [.null, iv 0])), (q1, .inl (cy 2, 200, .inl (fun _ => Int32.ofInt 0)))] H := hP
  have hD : va_D (va_A [(a0, .inr (1, bX1))] s.heap.size) [(a0, .inr (1, [.null, iv 0])), (q1, .inl (cy 2, 200, .inl (fun _ => Int32.ofInt 0)))] := hD
  refine Wputf F ff_X1_9 hK hP hD hS rfl rfl (Nat.le_of_ble_eq_true rfl) dX1_init_10 (fun H locs hP hD hS => ?_)
  have hP : va_P D vwCl [(a0, .inr (1, [.ref q1, iv 0])), (q1, .inl (cy 2, 200, .inl (fun _ => Int32.ofInt 0)))] H := hP
  have hD : va_D (va_A [(a0, .inr (1, bX1))] s.heap.size) [(a0, .inr (1, [.ref q1, iv 0])), (q1, .inl (cy 2, 200, .inl (fun _ => Int32.ofInt 0)))] := hD
  exact Wret F (fun i => ([a0, q1] : List Nat).getD i 0) rfl rfl hP hD hS dX1_init_13
abbrev bX5 : List Value := [.null]
abbrev wRdr (cy : Nat → ClassId) (ad : Nat → Nat) : va_W := [(ad 0, .inr (5, [.ref (ad 1)])), (ad 1, .inl (cy 0, 4, .inl (fun _ => Int32.ofInt 0)))]
set_option maxHeartbeats 400000 in
theorem k_X5 (l : Launch) (D : va_G) (cy : Nat → ClassId) : CoMet l D cy yX5_init cX5_init 1 (rmc 1 1 4) 5 bX5 (wRdr cy) 1 4 := by
  refine CoMet.of (own := RX5) (by decide) rfl rfl (by decide) ?_
  intro a0 p e s m args below meth c ls F hl hK hAO hP hD
  have hx := F.1
  have hb := F.2.1
  have hS : va_S (va_A [(a0, .inr (5, bX5))] s.heap.size) s.heap s.heap [] := va_S.rf
  have hA : ∀ q, s.heap.size ≤ q → va_A [(a0, .inr (5, bX5))] s.heap.size q := fun q h => Or.inr h
  generalize hH : s.heap = H at hP
  rw [hH] at hS
  subst hH
  refine lv_aload_n hx hb dX5_init_0 rfl (lv_at hl 0 rfl) ?_
  refine Woi F hl.1 oi_X5 (by decide) (by decide) dX5_init_1 ?_
  refine lv_aload_n hx hb dX5_init_4 rfl (lv_at hl 0 rfl) ?_
  refine lv_iconst hx hb dX5_init_5 (v := Int32.ofInt 4) rfl ?_
  refine Wnewa (atype := .int) (ty := .int) (Ly := cLy) (i := 0) (n := 4) (a0 := (4, .inl (fun _ => Int32.ofInt 0))) F ac_int rfl rfl hK hP hD hS hA (zI_int 4) (by decide) (by decide) (Nat.le_of_ble_eq_true rfl) (Nat.le_of_ble_eq_true rfl) dX5_init_6 (fun q1 H hP hD hS => ?_)
  have hP : va_P D vwCl [(a0, .inr (5, [.null])), (q1, .inl (cy 0, 4, .inl (fun _ => Int32.ofInt 0)))] H := hP
  have hD : va_D (va_A [(a0, .inr (5, bX5))] s.heap.size) [(a0, .inr (5, [.null])), (q1, .inl (cy 0, 4, .inl (fun _ => Int32.ofInt 0)))] := hD
  refine Wputf F ff_X5_9 hK hP hD hS rfl rfl (Nat.le_of_ble_eq_true rfl) dX5_init_8 (fun H locs hP hD hS => ?_)
  have hP : va_P D vwCl [(a0, .inr (5, [.ref q1])), (q1, .inl (cy 0, 4, .inl (fun _ => Int32.ofInt 0)))] H := hP
  have hD : va_D (va_A [(a0, .inr (5, bX5))] s.heap.size) [(a0, .inr (5, [.ref q1])), (q1, .inl (cy 0, 4, .inl (fun _ => Int32.ofInt 0)))] := hD
  exact Wret F (fun i => ([a0, q1] : List Nat).getD i 0) rfl rfl hP hD hS dX5_init_11
abbrev bX0 : List Value := [.null, .null, .null, .null, iv 0, iv 0, iv 0, .null, iv 0, iv 0]
abbrev wCut (cy : Nat → ClassId) (ad : Nat → Nat) : va_W := [(ad 0, .inr (0, [.ref (ad 1), .ref (ad 2), .ref (ad 3), .ref (ad 4), iv 0, iv 0, iv 0, .ref (ad 5), iv 0, iv 0])), (ad 1, .inl (cy 0, 14, .inl (fun _ => Int32.ofInt 0))), (ad 2, .inl (cy 0, 14, .inl (fun _ => Int32.ofInt 0))), (ad 3, .inl (cy 0, 14, .inl (fun _ => Int32.ofInt 0))), (ad 4, .inl (cy 0, 14, .inl (fun _ => Int32.ofInt 0))), (ad 5, .inl (cy 0, 14, .inl (fun _ => Int32.ofInt 0)))]
set_option maxHeartbeats 400000 in
theorem k_X0 (l : Launch) (D : va_G) (cy : Nat → ClassId) : CoMet l D cy yX0_init cX0_init 1 (rmc 1 5 70) 0 bX0 (wCut cy) 5 70 := by
  refine CoMet.of (own := RX0) (by decide) rfl rfl (by decide) ?_
  intro a0 p e s m args below meth c ls F hl hK hAO hP hD
  have hx := F.1
  have hb := F.2.1
  have hS : va_S (va_A [(a0, .inr (0, bX0))] s.heap.size) s.heap s.heap [] := va_S.rf
  have hA : ∀ q, s.heap.size ≤ q → va_A [(a0, .inr (0, bX0))] s.heap.size q := fun q h => Or.inr h
  generalize hH : s.heap = H at hP
  rw [hH] at hS
  subst hH
  refine lv_aload_n hx hb dX0_init_0 rfl (lv_at hl 0 rfl) ?_
  refine Woi F hl.1 oi_X0 (by decide) (by decide) dX0_init_1 ?_
  refine lv_aload_n hx hb dX0_init_4 rfl (lv_at hl 0 rfl) ?_
  refine lv_bipush hx hb dX0_init_5 (v := Int32.ofInt 14) (by decide) ?_
  refine Wnewa (atype := .int) (ty := .int) (Ly := cLy) (i := 0) (n := 14) (a0 := (14, .inl (fun _ => Int32.ofInt 0))) F ac_int rfl rfl hK hP hD hS hA (zI_int 14) (by decide) (by decide) (Nat.le_of_ble_eq_true rfl) (Nat.le_of_ble_eq_true rfl) dX0_init_7 (fun q1 H hP hD hS => ?_)
  have hP : va_P D vwCl [(a0, .inr (0, [.null, .null, .null, .null, iv 0, iv 0, iv 0, .null, iv 0, iv 0])), (q1, .inl (cy 0, 14, .inl (fun _ => Int32.ofInt 0)))] H := hP
  have hD : va_D (va_A [(a0, .inr (0, bX0))] s.heap.size) [(a0, .inr (0, [.null, .null, .null, .null, iv 0, iv 0, iv 0, .null, iv 0, iv 0])), (q1, .inl (cy 0, 14, .inl (fun _ => Int32.ofInt 0)))] := hD
  refine Wputf F ff_X0_9 hK hP hD hS rfl rfl (Nat.le_of_ble_eq_true rfl) dX0_init_9 (fun H locs hP hD hS => ?_)
  have hP : va_P D vwCl [(a0, .inr (0, [.ref q1, .null, .null, .null, iv 0, iv 0, iv 0, .null, iv 0, iv 0])), (q1, .inl (cy 0, 14, .inl (fun _ => Int32.ofInt 0)))] H := hP
  have hD : va_D (va_A [(a0, .inr (0, bX0))] s.heap.size) [(a0, .inr (0, [.ref q1, .null, .null, .null, iv 0, iv 0, iv 0, .null, iv 0, iv 0])), (q1, .inl (cy 0, 14, .inl (fun _ => Int32.ofInt 0)))] := hD
  refine lv_aload_n hx hb dX0_init_12 rfl (lv_at hl 0 rfl) ?_
  refine lv_bipush hx hb dX0_init_13 (v := Int32.ofInt 14) (by decide) ?_
  refine Wnewa (atype := .int) (ty := .int) (Ly := cLy) (i := 0) (n := 14) (a0 := (14, .inl (fun _ => Int32.ofInt 0))) F ac_int rfl rfl hK hP hD hS hA (zI_int 14) (by decide) (by decide) (Nat.le_of_ble_eq_true rfl) (Nat.le_of_ble_eq_true rfl) dX0_init_15 (fun q2 H hP hD hS => ?_)
  have hP : va_P D vwCl [(a0, .inr (0, [.ref q1, .null, .null, .null, iv 0, iv 0, iv 0, .null, iv 0, iv 0])), (q1, .inl (cy 0, 14, .inl (fun _ => Int32.ofInt 0))), (q2, .inl (cy 0, 14, .inl (fun _ => Int32.ofInt 0)))] H := hP
  have hD : va_D (va_A [(a0, .inr (0, bX0))] s.heap.size) [(a0, .inr (0, [.ref q1, .null, .null, .null, iv 0, iv 0, iv 0, .null, iv 0, iv 0])), (q1, .inl (cy 0, 14, .inl (fun _ => Int32.ofInt 0))), (q2, .inl (cy 0, 14, .inl (fun _ => Int32.ofInt 0)))] := hD
  refine Wputf F ff_X0_15 hK hP hD hS rfl rfl (Nat.le_of_ble_eq_true rfl) dX0_init_17 (fun H locs hP hD hS => ?_)
  have hP : va_P D vwCl [(a0, .inr (0, [.ref q1, .ref q2, .null, .null, iv 0, iv 0, iv 0, .null, iv 0, iv 0])), (q1, .inl (cy 0, 14, .inl (fun _ => Int32.ofInt 0))), (q2, .inl (cy 0, 14, .inl (fun _ => Int32.ofInt 0)))] H := hP
  have hD : va_D (va_A [(a0, .inr (0, bX0))] s.heap.size) [(a0, .inr (0, [.ref q1, .ref q2, .null, .null, iv 0, iv 0, iv 0, .null, iv 0, iv 0])), (q1, .inl (cy 0, 14, .inl (fun _ => Int32.ofInt 0))), (q2, .inl (cy 0, 14, .inl (fun _ => Int32.ofInt 0)))] := hD
  refine lv_aload_n hx hb dX0_init_20 rfl (lv_at hl 0 rfl) ?_
  refine lv_bipush hx hb dX0_init_21 (v := Int32.ofInt 14) (by decide) ?_
  refine Wnewa (atype := .int) (ty := .int) (Ly := cLy) (i := 0) (n := 14) (a0 := (14, .inl (fun _ => Int32.ofInt 0))) F ac_int rfl rfl hK hP hD hS hA (zI_int 14) (by decide) (by decide) (Nat.le_of_ble_eq_true rfl) (Nat.le_of_ble_eq_true rfl) dX0_init_23 (fun q3 H hP hD hS => ?_)
  have hP : va_P D vwCl [(a0, .inr (0, [.ref q1, .ref q2, .null, .null, iv 0, iv 0, iv 0, .null, iv 0, iv 0])), (q1, .inl (cy 0, 14, .inl (fun _ => Int32.ofInt 0))), (q2, .inl (cy 0, 14, .inl (fun _ => Int32.ofInt 0))), (q3, .inl (cy 0, 14, .inl (fun _ => Int32.ofInt 0)))] H := hP
  have hD : va_D (va_A [(a0, .inr (0, bX0))] s.heap.size) [(a0, .inr (0, [.ref q1, .ref q2, .null, .null, iv 0, iv 0, iv 0, .null, iv 0, iv 0])), (q1, .inl (cy 0, 14, .inl (fun _ => Int32.ofInt 0))), (q2, .inl (cy 0, 14, .inl (fun _ => Int32.ofInt 0))), (q3, .inl (cy 0, 14, .inl (fun _ => Int32.ofInt 0)))] := hD
  refine Wputf F ff_X0_18 hK hP hD hS rfl rfl (Nat.le_of_ble_eq_true rfl) dX0_init_25 (fun H locs hP hD hS => ?_)
  have hP : va_P D vwCl [(a0, .inr (0, [.ref q1, .ref q2, .ref q3, .null, iv 0, iv 0, iv 0, .null, iv 0, iv 0])), (q1, .inl (cy 0, 14, .inl (fun _ => Int32.ofInt 0))), (q2, .inl (cy 0, 14, .inl (fun _ => Int32.ofInt 0))), (q3, .inl (cy 0, 14, .inl (fun _ => Int32.ofInt 0)))] H := hP
  have hD : va_D (va_A [(a0, .inr (0, bX0))] s.heap.size) [(a0, .inr (0, [.ref q1, .ref q2, .ref q3, .null, iv 0, iv 0, iv 0, .null, iv 0, iv 0])), (q1, .inl (cy 0, 14, .inl (fun _ => Int32.ofInt 0))), (q2, .inl (cy 0, 14, .inl (fun _ => Int32.ofInt 0))), (q3, .inl (cy 0, 14, .inl (fun _ => Int32.ofInt 0)))] := hD
  refine lv_aload_n hx hb dX0_init_28 rfl (lv_at hl 0 rfl) ?_
  refine lv_bipush hx hb dX0_init_29 (v := Int32.ofInt 14) (by decide) ?_
  refine Wnewa (atype := .int) (ty := .int) (Ly := cLy) (i := 0) (n := 14) (a0 := (14, .inl (fun _ => Int32.ofInt 0))) F ac_int rfl rfl hK hP hD hS hA (zI_int 14) (by decide) (by decide) (Nat.le_of_ble_eq_true rfl) (Nat.le_of_ble_eq_true rfl) dX0_init_31 (fun q4 H hP hD hS => ?_)
  have hP : va_P D vwCl [(a0, .inr (0, [.ref q1, .ref q2, .ref q3, .null, iv 0, iv 0, iv 0, .null, iv 0, iv 0])), (q1, .inl (cy 0, 14, .inl (fun _ => Int32.ofInt 0))), (q2, .inl (cy 0, 14, .inl (fun _ => Int32.ofInt 0))), (q3, .inl (cy 0, 14, .inl (fun _ => Int32.ofInt 0))), (q4, .inl (cy 0, 14, .inl (fun _ => Int32.ofInt 0)))] H := hP
  have hD : va_D (va_A [(a0, .inr (0, bX0))] s.heap.size) [(a0, .inr (0, [.ref q1, .ref q2, .ref q3, .null, iv 0, iv 0, iv 0, .null, iv 0, iv 0])), (q1, .inl (cy 0, 14, .inl (fun _ => Int32.ofInt 0))), (q2, .inl (cy 0, 14, .inl (fun _ => Int32.ofInt 0))), (q3, .inl (cy 0, 14, .inl (fun _ => Int32.ofInt 0))), (q4, .inl (cy 0, 14, .inl (fun _ => Int32.ofInt 0)))] := hD
  refine Wputf F ff_X0_21 hK hP hD hS rfl rfl (Nat.le_of_ble_eq_true rfl) dX0_init_33 (fun H locs hP hD hS => ?_)
  have hP : va_P D vwCl [(a0, .inr (0, [.ref q1, .ref q2, .ref q3, .ref q4, iv 0, iv 0, iv 0, .null, iv 0, iv 0])), (q1, .inl (cy 0, 14, .inl (fun _ => Int32.ofInt 0))), (q2, .inl (cy 0, 14, .inl (fun _ => Int32.ofInt 0))), (q3, .inl (cy 0, 14, .inl (fun _ => Int32.ofInt 0))), (q4, .inl (cy 0, 14, .inl (fun _ => Int32.ofInt 0)))] H := hP
  have hD : va_D (va_A [(a0, .inr (0, bX0))] s.heap.size) [(a0, .inr (0, [.ref q1, .ref q2, .ref q3, .ref q4, iv 0, iv 0, iv 0, .null, iv 0, iv 0])), (q1, .inl (cy 0, 14, .inl (fun _ => Int32.ofInt 0))), (q2, .inl (cy 0, 14, .inl (fun _ => Int32.ofInt 0))), (q3, .inl (cy 0, 14, .inl (fun _ => Int32.ofInt 0))), (q4, .inl (cy 0, 14, .inl (fun _ => Int32.ofInt 0)))] := hD
  refine lv_aload_n hx hb dX0_init_36 rfl (lv_at hl 0 rfl) ?_
  refine lv_bipush hx hb dX0_init_37 (v := Int32.ofInt 14) (by decide) ?_
  refine Wnewa (atype := .int) (ty := .int) (Ly := cLy) (i := 0) (n := 14) (a0 := (14, .inl (fun _ => Int32.ofInt 0))) F ac_int rfl rfl hK hP hD hS hA (zI_int 14) (by decide) (by decide) (Nat.le_of_ble_eq_true rfl) (Nat.le_of_ble_eq_true rfl) dX0_init_39 (fun q5 H hP hD hS => ?_)
  have hP : va_P D vwCl [(a0, .inr (0, [.ref q1, .ref q2, .ref q3, .ref q4, iv 0, iv 0, iv 0, .null, iv 0, iv 0])), (q1, .inl (cy 0, 14, .inl (fun _ => Int32.ofInt 0))), (q2, .inl (cy 0, 14, .inl (fun _ => Int32.ofInt 0))), (q3, .inl (cy 0, 14, .inl (fun _ => Int32.ofInt 0))), (q4, .inl (cy 0, 14, .inl (fun _ => Int32.ofInt 0))), (q5, .inl (cy 0, 14, .inl (fun _ => Int32.ofInt 0)))] H := hP
  have hD : va_D (va_A [(a0, .inr (0, bX0))] s.heap.size) [(a0, .inr (0, [.ref q1, .ref q2, .ref q3, .ref q4, iv 0, iv 0, iv 0, .null, iv 0, iv 0])), (q1, .inl (cy 0, 14, .inl (fun _ => Int32.ofInt 0))), (q2, .inl (cy 0, 14, .inl (fun _ => Int32.ofInt 0))), (q3, .inl (cy 0, 14, .inl (fun _ => Int32.ofInt 0))), (q4, .inl (cy 0, 14, .inl (fun _ => Int32.ofInt 0))), (q5, .inl (cy 0, 14, .inl (fun _ => Int32.ofInt 0)))] := hD
  refine Wputf F ff_X0_24 hK hP hD hS rfl rfl (Nat.le_of_ble_eq_true rfl) dX0_init_41 (fun H locs hP hD hS => ?_)
  have hP : va_P D vwCl [(a0, .inr (0, [.ref q1, .ref q2, .ref q3, .ref q4, iv 0, iv 0, iv 0, .ref q5, iv 0, iv 0])), (q1, .inl (cy 0, 14, .inl (fun _ => Int32.ofInt 0))), (q2, .inl (cy 0, 14, .inl (fun _ => Int32.ofInt 0))), (q3, .inl (cy 0, 14, .inl (fun _ => Int32.ofInt 0))), (q4, .inl (cy 0, 14, .inl (fun _ => Int32.ofInt 0))), (q5, .inl (cy 0, 14, .inl (fun _ => Int32.ofInt 0)))] H := hP
  have hD : va_D (va_A [(a0, .inr (0, bX0))] s.heap.size) [(a0, .inr (0, [.ref q1, .ref q2, .ref q3, .ref q4, iv 0, iv 0, iv 0, .ref q5, iv 0, iv 0])), (q1, .inl (cy 0, 14, .inl (fun _ => Int32.ofInt 0))), (q2, .inl (cy 0, 14, .inl (fun _ => Int32.ofInt 0))), (q3, .inl (cy 0, 14, .inl (fun _ => Int32.ofInt 0))), (q4, .inl (cy 0, 14, .inl (fun _ => Int32.ofInt 0))), (q5, .inl (cy 0, 14, .inl (fun _ => Int32.ofInt 0)))] := hD
  exact Wret F (fun i => ([a0, q1, q2, q3, q4, q5] : List Nat).getD i 0) rfl rfl hP hD hS dX0_init_44
abbrev bX2 : List Value := [iv 0, iv 0, iv 0, iv 0, iv 0, iv 0, .null, .null, .null, .null, .null, .null]
abbrev wNet (cy : Nat → ClassId) (ad : Nat → Nat) : va_W := [(ad 0, .inr (2, [iv 0, iv 0, iv 0, iv 0, iv 0, iv 0, .ref (ad 1), .ref (ad 2), .ref (ad 3), .ref (ad 4), .ref (ad 5), .ref (ad 6)])), (ad 1, .inl (cy 0, 30, .inl (fun _ => Int32.ofInt 0))), (ad 2, .inl (cy 0, 10, .inl (fun _ => Int32.ofInt 0))), (ad 3, .inl (cy 0, 14, .inl (fun _ => Int32.ofInt 0))), (ad 4, .inl (cy 0, 14, .inl (fun _ => Int32.ofInt 0))), (ad 5, .inl (cy 0, 14, .inl (fun _ => Int32.ofInt 0))), (ad 6, .inl (cy 0, 14, .inl (fun _ => Int32.ofInt 0)))]
set_option maxHeartbeats 400000 in
theorem k_X2 (l : Launch) (D : va_G) (cy : Nat → ClassId) : CoMet l D cy yX2_init cX2_init 1 (rmc 1 6 96) 2 bX2 (wNet cy) 6 96 := by
  refine CoMet.of (own := RX2) (by decide) rfl rfl (by decide) ?_
  intro a0 p e s m args below meth c ls F hl hK hAO hP hD
  have hx := F.1
  have hb := F.2.1
  have hS : va_S (va_A [(a0, .inr (2, bX2))] s.heap.size) s.heap s.heap [] := va_S.rf
  have hA : ∀ q, s.heap.size ≤ q → va_A [(a0, .inr (2, bX2))] s.heap.size q := fun q h => Or.inr h
  generalize hH : s.heap = H at hP
  rw [hH] at hS
  subst hH
  refine lv_aload_n hx hb dX2_init_0 rfl (lv_at hl 0 rfl) ?_
  refine Woi F hl.1 oi_X2 (by decide) (by decide) dX2_init_1 ?_
  refine lv_aload_n hx hb dX2_init_4 rfl (lv_at hl 0 rfl) ?_
  refine lv_bipush hx hb dX2_init_5 (v := Int32.ofInt 30) (by decide) ?_
  refine Wnewa (atype := .int) (ty := .int) (Ly := cLy) (i := 0) (n := 30) (a0 := (30, .inl (fun _ => Int32.ofInt 0))) F ac_int rfl rfl hK hP hD hS hA (zI_int 30) (by decide) (by decide) (Nat.le_of_ble_eq_true rfl) (Nat.le_of_ble_eq_true rfl) dX2_init_7 (fun q1 H hP hD hS => ?_)
  have hP : va_P D vwCl [(a0, .inr (2, [iv 0, iv 0, iv 0, iv 0, iv 0, iv 0, .null, .null, .null, .null, .null, .null])), (q1, .inl (cy 0, 30, .inl (fun _ => Int32.ofInt 0)))] H := hP
  have hD : va_D (va_A [(a0, .inr (2, bX2))] s.heap.size) [(a0, .inr (2, [iv 0, iv 0, iv 0, iv 0, iv 0, iv 0, .null, .null, .null, .null, .null, .null])), (q1, .inl (cy 0, 30, .inl (fun _ => Int32.ofInt 0)))] := hD
  refine Wputf F ff_X2_9 hK hP hD hS rfl rfl (Nat.le_of_ble_eq_true rfl) dX2_init_9 (fun H locs hP hD hS => ?_)
  have hP : va_P D vwCl [(a0, .inr (2, [iv 0, iv 0, iv 0, iv 0, iv 0, iv 0, .ref q1, .null, .null, .null, .null, .null])), (q1, .inl (cy 0, 30, .inl (fun _ => Int32.ofInt 0)))] H := hP
  have hD : va_D (va_A [(a0, .inr (2, bX2))] s.heap.size) [(a0, .inr (2, [iv 0, iv 0, iv 0, iv 0, iv 0, iv 0, .ref q1, .null, .null, .null, .null, .null])), (q1, .inl (cy 0, 30, .inl (fun _ => Int32.ofInt 0)))] := hD
  refine lv_aload_n hx hb dX2_init_12 rfl (lv_at hl 0 rfl) ?_
  refine lv_bipush hx hb dX2_init_13 (v := Int32.ofInt 10) (by decide) ?_
  refine Wnewa (atype := .int) (ty := .int) (Ly := cLy) (i := 0) (n := 10) (a0 := (10, .inl (fun _ => Int32.ofInt 0))) F ac_int rfl rfl hK hP hD hS hA (zI_int 10) (by decide) (by decide) (Nat.le_of_ble_eq_true rfl) (Nat.le_of_ble_eq_true rfl) dX2_init_15 (fun q2 H hP hD hS => ?_)
  have hP : va_P D vwCl [(a0, .inr (2, [iv 0, iv 0, iv 0, iv 0, iv 0, iv 0, .ref q1, .null, .null, .null, .null, .null])), (q1, .inl (cy 0, 30, .inl (fun _ => Int32.ofInt 0))), (q2, .inl (cy 0, 10, .inl (fun _ => Int32.ofInt 0)))] H := hP
  have hD : va_D (va_A [(a0, .inr (2, bX2))] s.heap.size) [(a0, .inr (2, [iv 0, iv 0, iv 0, iv 0, iv 0, iv 0, .ref q1, .null, .null, .null, .null, .null])), (q1, .inl (cy 0, 30, .inl (fun _ => Int32.ofInt 0))), (q2, .inl (cy 0, 10, .inl (fun _ => Int32.ofInt 0)))] := hD
  refine Wputf F ff_X2_15 hK hP hD hS rfl rfl (Nat.le_of_ble_eq_true rfl) dX2_init_17 (fun H locs hP hD hS => ?_)
  have hP : va_P D vwCl [(a0, .inr (2, [iv 0, iv 0, iv 0, iv 0, iv 0, iv 0, .ref q1, .ref q2, .null, .null, .null, .null])), (q1, .inl (cy 0, 30, .inl (fun _ => Int32.ofInt 0))), (q2, .inl (cy 0, 10, .inl (fun _ => Int32.ofInt 0)))] H := hP
  have hD : va_D (va_A [(a0, .inr (2, bX2))] s.heap.size) [(a0, .inr (2, [iv 0, iv 0, iv 0, iv 0, iv 0, iv 0, .ref q1, .ref q2, .null, .null, .null, .null])), (q1, .inl (cy 0, 30, .inl (fun _ => Int32.ofInt 0))), (q2, .inl (cy 0, 10, .inl (fun _ => Int32.ofInt 0)))] := hD
  refine lv_aload_n hx hb dX2_init_20 rfl (lv_at hl 0 rfl) ?_
  refine lv_bipush hx hb dX2_init_21 (v := Int32.ofInt 14) (by decide) ?_
  refine Wnewa (atype := .int) (ty := .int) (Ly := cLy) (i := 0) (n := 14) (a0 := (14, .inl (fun _ => Int32.ofInt 0))) F ac_int rfl rfl hK hP hD hS hA (zI_int 14) (by decide) (by decide) (Nat.le_of_ble_eq_true rfl) (Nat.le_of_ble_eq_true rfl) dX2_init_23 (fun q3 H hP hD hS => ?_)
  have hP : va_P D vwCl [(a0, .inr (2, [iv 0, iv 0, iv 0, iv 0, iv 0, iv 0, .ref q1, .ref q2, .null, .null, .null, .null])), (q1, .inl (cy 0, 30, .inl (fun _ => Int32.ofInt 0))), (q2, .inl (cy 0, 10, .inl (fun _ => Int32.ofInt 0))), (q3, .inl (cy 0, 14, .inl (fun _ => Int32.ofInt 0)))] H := hP
  have hD : va_D (va_A [(a0, .inr (2, bX2))] s.heap.size) [(a0, .inr (2, [iv 0, iv 0, iv 0, iv 0, iv 0, iv 0, .ref q1, .ref q2, .null, .null, .null, .null])), (q1, .inl (cy 0, 30, .inl (fun _ => Int32.ofInt 0))), (q2, .inl (cy 0, 10, .inl (fun _ => Int32.ofInt 0))), (q3, .inl (cy 0, 14, .inl (fun _ => Int32.ofInt 0)))] := hD
  refine Wputf F ff_X2_18 hK hP hD hS rfl rfl (Nat.le_of_ble_eq_true rfl) dX2_init_25 (fun H locs hP hD hS => ?_)
  have hP : va_P D vwCl [(a0, .inr (2, [iv 0, iv 0, iv 0, iv 0, iv 0, iv 0, .ref q1, .ref q2, .ref q3, .null, .null, .null])), (q1, .inl (cy 0, 30, .inl (fun _ => Int32.ofInt 0))), (q2, .inl (cy 0, 10, .inl (fun _ => Int32.ofInt 0))), (q3, .inl (cy 0, 14, .inl (fun _ => Int32.ofInt 0)))] H := hP
  have hD : va_D (va_A [(a0, .inr (2, bX2))] s.heap.size) [(a0, .inr (2, [iv 0, iv 0, iv 0, iv 0, iv 0, iv 0, .ref q1, .ref q2, .ref q3, .null, .null, .null])), (q1, .inl (cy 0, 30, .inl (fun _ => Int32.ofInt 0))), (q2, .inl (cy 0, 10, .inl (fun _ => Int32.ofInt 0))), (q3, .inl (cy 0, 14, .inl (fun _ => Int32.ofInt 0)))] := hD
  refine lv_aload_n hx hb dX2_init_28 rfl (lv_at hl 0 rfl) ?_
  refine lv_bipush hx hb dX2_init_29 (v := Int32.ofInt 14) (by decide) ?_
  refine Wnewa (atype := .int) (ty := .int) (Ly := cLy) (i := 0) (n := 14) (a0 := (14, .inl (fun _ => Int32.ofInt 0))) F ac_int rfl rfl hK hP hD hS hA (zI_int 14) (by decide) (by decide) (Nat.le_of_ble_eq_true rfl) (Nat.le_of_ble_eq_true rfl) dX2_init_31 (fun q4 H hP hD hS => ?_)
  have hP : va_P D vwCl [(a0, .inr (2, [iv 0, iv 0, iv 0, iv 0, iv 0, iv 0, .ref q1, .ref q2, .ref q3, .null, .null, .null])), (q1, .inl (cy 0, 30, .inl (fun _ => Int32.ofInt 0))), (q2, .inl (cy 0, 10, .inl (fun _ => Int32.ofInt 0))), (q3, .inl (cy 0, 14, .inl (fun _ => Int32.ofInt 0))), (q4, .inl (cy 0, 14, .inl (fun _ => Int32.ofInt 0)))] H := hP
  have hD : va_D (va_A [(a0, .inr (2, bX2))] s.heap.size) [(a0, .inr (2, [iv 0, iv 0, iv 0, iv 0, iv 0, iv 0, .ref q1, .ref q2, .ref q3, .null, .null, .null])), (q1, .inl (cy 0, 30, .inl (fun _ => Int32.ofInt 0))), (q2, .inl (cy 0, 10, .inl (fun _ => Int32.ofInt 0))), (q3, .inl (cy 0, 14, .inl (fun _ => Int32.ofInt 0))), (q4, .inl (cy 0, 14, .inl (fun _ => Int32.ofInt 0)))] := hD
  refine Wputf F ff_X2_21 hK hP hD hS rfl rfl (Nat.le_of_ble_eq_true rfl) dX2_init_33 (fun H locs hP hD hS => ?_)
  have hP : va_P D vwCl [(a0, .inr (2, [iv 0, iv 0, iv 0, iv 0, iv 0, iv 0, .ref q1, .ref q2, .ref q3, .ref q4, .null, .null])), (q1, .inl (cy 0, 30, .inl (fun _ => Int32.ofInt 0))), (q2, .inl (cy 0, 10, .inl (fun _ => Int32.ofInt 0))), (q3, .inl (cy 0, 14, .inl (fun _ => Int32.ofInt 0))), (q4, .inl (cy 0, 14, .inl (fun _ => Int32.ofInt 0)))] H := hP
  have hD : va_D (va_A [(a0, .inr (2, bX2))] s.heap.size) [(a0, .inr (2, [iv 0, iv 0, iv 0, iv 0, iv 0, iv 0, .ref q1, .ref q2, .ref q3, .ref q4, .null, .null])), (q1, .inl (cy 0, 30, .inl (fun _ => Int32.ofInt 0))), (q2, .inl (cy 0, 10, .inl (fun _ => Int32.ofInt 0))), (q3, .inl (cy 0, 14, .inl (fun _ => Int32.ofInt 0))), (q4, .inl (cy 0, 14, .inl (fun _ => Int32.ofInt 0)))] := hD
  refine lv_aload_n hx hb dX2_init_36 rfl (lv_at hl 0 rfl) ?_
  refine lv_bipush hx hb dX2_init_37 (v := Int32.ofInt 14) (by decide) ?_
  refine Wnewa (atype := .int) (ty := .int) (Ly := cLy) (i := 0) (n := 14) (a0 := (14, .inl (fun _ => Int32.ofInt 0))) F ac_int rfl rfl hK hP hD hS hA (zI_int 14) (by decide) (by decide) (Nat.le_of_ble_eq_true rfl) (Nat.le_of_ble_eq_true rfl) dX2_init_39 (fun q5 H hP hD hS => ?_)
  have hP : va_P D vwCl [(a0, .inr (2, [iv 0, iv 0, iv 0, iv 0, iv 0, iv 0, .ref q1, .ref q2, .ref q3, .ref q4, .null, .null])), (q1, .inl (cy 0, 30, .inl (fun _ => Int32.ofInt 0))), (q2, .inl (cy 0, 10, .inl (fun _ => Int32.ofInt 0))), (q3, .inl (cy 0, 14, .inl (fun _ => Int32.ofInt 0))), (q4, .inl (cy 0, 14, .inl (fun _ => Int32.ofInt 0))), (q5, .inl (cy 0, 14, .inl (fun _ => Int32.ofInt 0)))] H := hP
  have hD : va_D (va_A [(a0, .inr (2, bX2))] s.heap.size) [(a0, .inr (2, [iv 0, iv 0, iv 0, iv 0, iv 0, iv 0, .ref q1, .ref q2, .ref q3, .ref q4, .null, .null])), (q1, .inl (cy 0, 30, .inl (fun _ => Int32.ofInt 0))), (q2, .inl (cy 0, 10, .inl (fun _ => Int32.ofInt 0))), (q3, .inl (cy 0, 14, .inl (fun _ => Int32.ofInt 0))), (q4, .inl (cy 0, 14, .inl (fun _ => Int32.ofInt 0))), (q5, .inl (cy 0, 14, .inl (fun _ => Int32.ofInt 0)))] := hD
  refine Wputf F ff_X2_24 hK hP hD hS rfl rfl (Nat.le_of_ble_eq_true rfl) dX2_init_41 (fun H locs hP hD hS => ?_)
  have hP : va_P D vwCl [(a0, .inr (2, [iv 0, iv 0, iv 0, iv 0, iv 0, iv 0, .ref q1, .ref q2, .ref q3, .ref q4, .ref q5, .null])), (q1, .inl (cy 0, 30, .inl (fun _ => Int32.ofInt 0))), (q2, .inl (cy 0, 10, .inl (fun _ => Int32.ofInt 0))), (q3, .inl (cy 0, 14, .inl (fun _ => Int32.ofInt 0))), (q4, .inl (cy 0, 14, .inl (fun _ => Int32.ofInt 0))), (q5, .inl (cy 0, 14, .inl (fun _ => Int32.ofInt 0)))] H := hP
  have hD : va_D (va_A [(a0, .inr (2, bX2))] s.heap.size) [(a0, .inr (2, [iv 0, iv 0, iv 0, iv 0, iv 0, iv 0, .ref q1, .ref q2, .ref q3, .ref q4, .ref q5, .null])), (q1, .inl (cy 0, 30, .inl (fun _ => Int32.ofInt 0))), (q2, .inl (cy 0, 10, .inl (fun _ => Int32.ofInt 0))), (q3, .inl (cy 0, 14, .inl (fun _ => Int32.ofInt 0))), (q4, .inl (cy 0, 14, .inl (fun _ => Int32.ofInt 0))), (q5, .inl (cy 0, 14, .inl (fun _ => Int32.ofInt 0)))] := hD
  refine lv_aload_n hx hb dX2_init_44 rfl (lv_at hl 0 rfl) ?_
  refine lv_bipush hx hb dX2_init_45 (v := Int32.ofInt 14) (by decide) ?_
  refine Wnewa (atype := .int) (ty := .int) (Ly := cLy) (i := 0) (n := 14) (a0 := (14, .inl (fun _ => Int32.ofInt 0))) F ac_int rfl rfl hK hP hD hS hA (zI_int 14) (by decide) (by decide) (Nat.le_of_ble_eq_true rfl) (Nat.le_of_ble_eq_true rfl) dX2_init_47 (fun q6 H hP hD hS => ?_)
  have hP : va_P D vwCl [(a0, .inr (2, [iv 0, iv 0, iv 0, iv 0, iv 0, iv 0, .ref q1, .ref q2, .ref q3, .ref q4, .ref q5, .null])), (q1, .inl (cy 0, 30, .inl (fun _ => Int32.ofInt 0))), (q2, .inl (cy 0, 10, .inl (fun _ => Int32.ofInt 0))), (q3, .inl (cy 0, 14, .inl (fun _ => Int32.ofInt 0))), (q4, .inl (cy 0, 14, .inl (fun _ => Int32.ofInt 0))), (q5, .inl (cy 0, 14, .inl (fun _ => Int32.ofInt 0))), (q6, .inl (cy 0, 14, .inl (fun _ => Int32.ofInt 0)))] H := hP
  have hD : va_D (va_A [(a0, .inr (2, bX2))] s.heap.size) [(a0, .inr (2, [iv 0, iv 0, iv 0, iv 0, iv 0, iv 0, .ref q1, .ref q2, .ref q3, .ref q4, .ref q5, .null])), (q1, .inl (cy 0, 30, .inl (fun _ => Int32.ofInt 0))), (q2, .inl (cy 0, 10, .inl (fun _ => Int32.ofInt 0))), (q3, .inl (cy 0, 14, .inl (fun _ => Int32.ofInt 0))), (q4, .inl (cy 0, 14, .inl (fun _ => Int32.ofInt 0))), (q5, .inl (cy 0, 14, .inl (fun _ => Int32.ofInt 0))), (q6, .inl (cy 0, 14, .inl (fun _ => Int32.ofInt 0)))] := hD
  refine Wputf F ff_X2_27 hK hP hD hS rfl rfl (Nat.le_of_ble_eq_true rfl) dX2_init_49 (fun H locs hP hD hS => ?_)
  have hP : va_P D vwCl [(a0, .inr (2, [iv 0, iv 0, iv 0, iv 0, iv 0, iv 0, .ref q1, .ref q2, .ref q3, .ref q4, .ref q5, .ref q6])), (q1, .inl (cy 0, 30, .inl (fun _ => Int32.ofInt 0))), (q2, .inl (cy 0, 10, .inl (fun _ => Int32.ofInt 0))), (q3, .inl (cy 0, 14, .inl (fun _ => Int32.ofInt 0))), (q4, .inl (cy 0, 14, .inl (fun _ => Int32.ofInt 0))), (q5, .inl (cy 0, 14, .inl (fun _ => Int32.ofInt 0))), (q6, .inl (cy 0, 14, .inl (fun _ => Int32.ofInt 0)))] H := hP
  have hD : va_D (va_A [(a0, .inr (2, bX2))] s.heap.size) [(a0, .inr (2, [iv 0, iv 0, iv 0, iv 0, iv 0, iv 0, .ref q1, .ref q2, .ref q3, .ref q4, .ref q5, .ref q6])), (q1, .inl (cy 0, 30, .inl (fun _ => Int32.ofInt 0))), (q2, .inl (cy 0, 10, .inl (fun _ => Int32.ofInt 0))), (q3, .inl (cy 0, 14, .inl (fun _ => Int32.ofInt 0))), (q4, .inl (cy 0, 14, .inl (fun _ => Int32.ofInt 0))), (q5, .inl (cy 0, 14, .inl (fun _ => Int32.ofInt 0))), (q6, .inl (cy 0, 14, .inl (fun _ => Int32.ofInt 0)))] := hD
  exact Wret F (fun i => ([a0, q1, q2, q3, q4, q5, q6] : List Nat).getD i 0) rfl rfl hP hD hS dX2_init_52
