/-! Constructors of Shape, Trials, Past: by program (wip/whole/mk_con4.py). -/
theorem at_q {D : va_G} {a n : Nat} {cA : ClassId} {f g : Nat → Option Nat} {H : Heap} (e : ∀ k, k < n → f k = g k) (h : va_at D vwCl (a, .inl (cA, n, .inr (.inr (.inr (.inr f))))) H) : va_at D vwCl (a, .inl (cA, n, .inr (.inr (.inr (.inr g))))) H := by
  have q := arrV_c (cA := cA) (n := n) (f := fun j => va_rf (f j)) (g := fun j => va_rf (g j)) (fun k hk => by rw [e k hk])
  show H[a]? = some (arrV cA n (fun j => va_rf (g j)))
  rw [← q]
  exact h
abbrev bX4 : List Value := [.null, .null, .null, .null, iv 0, jv 0]
abbrev wShpF (cy : Nat → ClassId) (ad : Nat → Nat) (f : Nat → Option Nat) : va_W := [(ad 0, .inr (4, [.ref (ad 1), .ref (ad 2), .ref (ad 3), .ref (ad 4), iv 0, jv 1])), (ad 1, .inl (cy 0, 10, .inl (fun _ => Int32.ofInt 0))), (ad 2, .inl (cy 4, 5, .inr (.inr (.inr (.inr f))))), (ad 3, .inl (cy 0, 30, .inl (fun _ => Int32.ofInt 0))), (ad 4, .inl (cy 0, 14, .inl (fun _ => Int32.ofInt 0))), (ad 5, .inl (cy 1, 8, .inr (.inl (fun _ => Int64.ofInt 0)))), (ad 6, .inl (cy 1, 8, .inr (.inl (fun _ => Int64.ofInt 0)))), (ad 7, .inl (cy 1, 8, .inr (.inl (fun _ => Int64.ofInt 0)))), (ad 8, .inl (cy 1, 8, .inr (.inl (fun _ => Int64.ofInt 0)))), (ad 9, .inl (cy 1, 8, .inr (.inl (fun _ => Int64.ofInt 0))))]
abbrev wShp (cy : Nat → ClassId) (ad : Nat → Nat) : va_W := wShpF cy ad (fun k => some (ad (5 + k)))
set_option maxHeartbeats 400000 in
theorem k_X4 (l : Launch) (D : va_G) (cy : Nat → ClassId) : CoMet l D cy yX4_init cX4_init 1 (rmc 1 9 99) 4 bX4 (wShp cy) 9 99 := by
  refine CoMet.of (own := RX4) (by decide) rfl rfl (by decide) ?_
  intro a0 p e s m args below meth c ls F hl hK hAO hP hD
  have hx := F.1
  have hb := F.2.1
  have hS : va_S (va_A [(a0, .inr (4, bX4))] s.heap.size) s.heap s.heap [] := va_S.rf
  have hA : ∀ q, s.heap.size ≤ q → va_A [(a0, .inr (4, bX4))] s.heap.size q := fun q h => Or.inr h
  generalize hH : s.heap = H at hP
  rw [hH] at hS
  subst hH
  refine lv_aload_n hx hb dX4_init_0 rfl (lv_at hl 0 rfl) ?_
  refine Woi F hl.1 oi_X4 (by decide) (by decide) dX4_init_1 ?_
  refine lv_aload_n hx hb dX4_init_4 rfl (lv_at hl 0 rfl) ?_
  refine lv_bipush hx hb dX4_init_5 (v := Int32.ofInt 10) (by decide) ?_
  refine Wnewa (atype := .int) (ty := .int) (Ly := cLy) (i := 0) (n := 10) (a0 := (10, .inl (fun _ => Int32.ofInt 0))) F ac_int rfl rfl hK hP hD hS hA (zI_int 10) (by decide) (by decide) (Nat.le_of_ble_eq_true rfl) (Nat.le_of_ble_eq_true rfl) dX4_init_7 (fun q1 H hP hD hS => ?_)
  have hP : va_P D vwCl [(a0, .inr (4, [.null, .null, .null, .null, iv 0, jv 0])), (q1, .inl (cy 0, 10, .inl (fun _ => Int32.ofInt 0)))] H := hP
  have hD : va_D (va_A [(a0, .inr (4, bX4))] s.heap.size) [(a0, .inr (4, [.null, .null, .null, .null, iv 0, jv 0])), (q1, .inl (cy 0, 10, .inl (fun _ => Int32.ofInt 0)))] := hD
  refine Wputf F ff_X4_9 hK hP hD hS rfl rfl (Nat.le_of_ble_eq_true rfl) dX4_init_9 (fun H locs hP hD hS => ?_)
  have hP : va_P D vwCl [(a0, .inr (4, [.ref q1, .null, .null, .null, iv 0, jv 0])), (q1, .inl (cy 0, 10, .inl (fun _ => Int32.ofInt 0)))] H := hP
  have hD : va_D (va_A [(a0, .inr (4, bX4))] s.heap.size) [(a0, .inr (4, [.ref q1, .null, .null, .null, iv 0, jv 0])), (q1, .inl (cy 0, 10, .inl (fun _ => Int32.ofInt 0)))] := hD
  refine lv_aload_n hx hb dX4_init_12 rfl (lv_at hl 0 rfl) ?_
  refine lv_iconst hx hb dX4_init_13 (v := 5) (by decide) ?_
  refine lv_bipush hx hb dX4_init_14 (v := 8) (by decide) ?_
  refine Wmul F cl_X4_15 hK hAO hP hD hS hA (Nat.le_of_ble_eq_true rfl) (Nat.le_of_ble_eq_true rfl) dX4_init_16 (fun q2 H locs hP hD hS => ?_)
  have hP : va_P D vwCl [(a0, .inr (4, [.ref q1, .null, .null, .null, iv 0, jv 0])), (q1, .inl (cy 0, 10, .inl (fun _ => Int32.ofInt 0))), (q2, .inl (cy 4, 5, .inr (.inr (.inr (.inr (fun k => some (q2 + 1 + k))))))), (q2 + 1, .inl (cy 1, 8, .inr (.inl (fun _ => Int64.ofInt 0)))), (q2 + 2, .inl (cy 1, 8, .inr (.inl (fun _ => Int64.ofInt 0)))), (q2 + 3, .inl (cy 1, 8, .inr (.inl (fun _ => Int64.ofInt 0)))), (q2 + 4, .inl (cy 1, 8, .inr (.inl (fun _ => Int64.ofInt 0)))), (q2 + 5, .inl (cy 1, 8, .inr (.inl (fun _ => Int64.ofInt 0))))] H := hP
  have hD : va_D (va_A [(a0, .inr (4, bX4))] s.heap.size) [(a0, .inr (4, [.ref q1, .null, .null, .null, iv 0, jv 0])), (q1, .inl (cy 0, 10, .inl (fun _ => Int32.ofInt 0))), (q2, .inl (cy 4, 5, .inr (.inr (.inr (.inr (fun k => some (q2 + 1 + k))))))), (q2 + 1, .inl (cy 1, 8, .inr (.inl (fun _ => Int64.ofInt 0)))), (q2 + 2, .inl (cy 1, 8, .inr (.inl (fun _ => Int64.ofInt 0)))), (q2 + 3, .inl (cy 1, 8, .inr (.inl (fun _ => Int64.ofInt 0)))), (q2 + 4, .inl (cy 1, 8, .inr (.inl (fun _ => Int64.ofInt 0)))), (q2 + 5, .inl (cy 1, 8, .inr (.inl (fun _ => Int64.ofInt 0))))] := hD
  refine Wputf F ff_X4_17 hK hP hD hS rfl rfl (Nat.le_of_ble_eq_true rfl) dX4_init_20 (fun H locs hP hD hS => ?_)
  have hP : va_P D vwCl [(a0, .inr (4, [.ref q1, .ref q2, .null, .null, iv 0, jv 0])), (q1, .inl (cy 0, 10, .inl (fun _ => Int32.ofInt 0))), (q2, .inl (cy 4, 5, .inr (.inr (.inr (.inr (fun k => some (q2 + 1 + k))))))), (q2 + 1, .inl (cy 1, 8, .inr (.inl (fun _ => Int64.ofInt 0)))), (q2 + 2, .inl (cy 1, 8, .inr (.inl (fun _ => Int64.ofInt 0)))), (q2 + 3, .inl (cy 1, 8, .inr (.inl (fun _ => Int64.ofInt 0)))), (q2 + 4, .inl (cy 1, 8, .inr (.inl (fun _ => Int64.ofInt 0)))), (q2 + 5, .inl (cy 1, 8, .inr (.inl (fun _ => Int64.ofInt 0))))] H := hP
  have hD : va_D (va_A [(a0, .inr (4, bX4))] s.heap.size) [(a0, .inr (4, [.ref q1, .ref q2, .null, .null, iv 0, jv 0])), (q1, .inl (cy 0, 10, .inl (fun _ => Int32.ofInt 0))), (q2, .inl (cy 4, 5, .inr (.inr (.inr (.inr (fun k => some (q2 + 1 + k))))))), (q2 + 1, .inl (cy 1, 8, .inr (.inl (fun _ => Int64.ofInt 0)))), (q2 + 2, .inl (cy 1, 8, .inr (.inl (fun _ => Int64.ofInt 0)))), (q2 + 3, .inl (cy 1, 8, .inr (.inl (fun _ => Int64.ofInt 0)))), (q2 + 4, .inl (cy 1, 8, .inr (.inl (fun _ => Int64.ofInt 0)))), (q2 + 5, .inl (cy 1, 8, .inr (.inl (fun _ => Int64.ofInt 0))))] := hD
  refine lv_aload_n hx hb dX4_init_23 rfl (lv_at hl 0 rfl) ?_
  refine lv_bipush hx hb dX4_init_24 (v := Int32.ofInt 30) (by decide) ?_
  refine Wnewa (atype := .int) (ty := .int) (Ly := cLy) (i := 0) (n := 30) (a0 := (30, .inl (fun _ => Int32.ofInt 0))) F ac_int rfl rfl hK hP hD hS hA (zI_int 30) (by decide) (by decide) (Nat.le_of_ble_eq_true rfl) (Nat.le_of_ble_eq_true rfl) dX4_init_26 (fun q3 H hP hD hS => ?_)
  have hP : va_P D vwCl [(a0, .inr (4, [.ref q1, .ref q2, .null, .null, iv 0, jv 0])), (q1, .inl (cy 0, 10, .inl (fun _ => Int32.ofInt 0))), (q2, .inl (cy 4, 5, .inr (.inr (.inr (.inr (fun k => some (q2 + 1 + k))))))), (q2 + 1, .inl (cy 1, 8, .inr (.inl (fun _ => Int64.ofInt 0)))), (q2 + 2, .inl (cy 1, 8, .inr (.inl (fun _ => Int64.ofInt 0)))), (q2 + 3, .inl (cy 1, 8, .inr (.inl (fun _ => Int64.ofInt 0)))), (q2 + 4, .inl (cy 1, 8, .inr (.inl (fun _ => Int64.ofInt 0)))), (q2 + 5, .inl (cy 1, 8, .inr (.inl (fun _ => Int64.ofInt 0)))), (q3, .inl (cy 0, 30, .inl (fun _ => Int32.ofInt 0)))] H := hP
  have hD : va_D (va_A [(a0, .inr (4, bX4))] s.heap.size) [(a0, .inr (4, [.ref q1, .ref q2, .null, .null, iv 0, jv 0])), (q1, .inl (cy 0, 10, .inl (fun _ => Int32.ofInt 0))), (q2, .inl (cy 4, 5, .inr (.inr (.inr (.inr (fun k => some (q2 + 1 + k))))))), (q2 + 1, .inl (cy 1, 8, .inr (.inl (fun _ => Int64.ofInt 0)))), (q2 + 2, .inl (cy 1, 8, .inr (.inl (fun _ => Int64.ofInt 0)))), (q2 + 3, .inl (cy 1, 8, .inr (.inl (fun _ => Int64.ofInt 0)))), (q2 + 4, .inl (cy 1, 8, .inr (.inl (fun _ => Int64.ofInt 0)))), (q2 + 5, .inl (cy 1, 8, .inr (.inl (fun _ => Int64.ofInt 0)))), (q3, .inl (cy 0, 30, .inl (fun _ => Int32.ofInt 0)))] := hD
  refine Wputf F ff_X4_20 hK hP hD hS rfl rfl (Nat.le_of_ble_eq_true rfl) dX4_init_28 (fun H locs hP hD hS => ?_)
  have hP : va_P D vwCl [(a0, .inr (4, [.ref q1, .ref q2, .ref q3, .null, iv 0, jv 0])), (q1, .inl (cy 0, 10, .inl (fun _ => Int32.ofInt 0))), (q2, .inl (cy 4, 5, .inr (.inr (.inr (.inr (fun k => some (q2 + 1 + k))))))), (q2 + 1, .inl (cy 1, 8, .inr (.inl (fun _ => Int64.ofInt 0)))), (q2 + 2, .inl (cy 1, 8, .inr (.inl (fun _ => Int64.ofInt 0)))), (q2 + 3, .inl (cy 1, 8, .inr (.inl (fun _ => Int64.ofInt 0)))), (q2 + 4, .inl (cy 1, 8, .inr (.inl (fun _ => Int64.ofInt 0)))), (q2 + 5, .inl (cy 1, 8, .inr (.inl (fun _ => Int64.ofInt 0)))), (q3, .inl (cy 0, 30, .inl (fun _ => Int32.ofInt 0)))] H := hP
  have hD : va_D (va_A [(a0, .inr (4, bX4))] s.heap.size) [(a0, .inr (4, [.ref q1, .ref q2, .ref q3, .null, iv 0, jv 0])), (q1, .inl (cy 0, 10, .inl (fun _ => Int32.ofInt 0))), (q2, .inl (cy 4, 5, .inr (.inr (.inr (.inr (fun k => some (q2 + 1 + k))))))), (q2 + 1, .inl (cy 1, 8, .inr (.inl (fun _ => Int64.ofInt 0)))), (q2 + 2, .inl (cy 1, 8, .inr (.inl (fun _ => Int64.ofInt 0)))), (q2 + 3, .inl (cy 1, 8, .inr (.inl (fun _ => Int64.ofInt 0)))), (q2 + 4, .inl (cy 1, 8, .inr (.inl (fun _ => Int64.ofInt 0)))), (q2 + 5, .inl (cy 1, 8, .inr (.inl (fun _ => Int64.ofInt 0)))), (q3, .inl (cy 0, 30, .inl (fun _ => Int32.ofInt 0)))] := hD
  refine lv_aload_n hx hb dX4_init_31 rfl (lv_at hl 0 rfl) ?_
  refine lv_bipush hx hb dX4_init_32 (v := Int32.ofInt 14) (by decide) ?_
  refine Wnewa (atype := .int) (ty := .int) (Ly := cLy) (i := 0) (n := 14) (a0 := (14, .inl (fun _ => Int32.ofInt 0))) F ac_int rfl rfl hK hP hD hS hA (zI_int 14) (by decide) (by decide) (Nat.le_of_ble_eq_true rfl) (Nat.le_of_ble_eq_true rfl) dX4_init_34 (fun q4 H hP hD hS => ?_)
  have hP : va_P D vwCl [(a0, .inr (4, [.ref q1, .ref q2, .ref q3, .null, iv 0, jv 0])), (q1, .inl (cy 0, 10, .inl (fun _ => Int32.ofInt 0))), (q2, .inl (cy 4, 5, .inr (.inr (.inr (.inr (fun k => some (q2 + 1 + k))))))), (q2 + 1, .inl (cy 1, 8, .inr (.inl (fun _ => Int64.ofInt 0)))), (q2 + 2, .inl (cy 1, 8, .inr (.inl (fun _ => Int64.ofInt 0)))), (q2 + 3, .inl (cy 1, 8, .inr (.inl (fun _ => Int64.ofInt 0)))), (q2 + 4, .inl (cy 1, 8, .inr (.inl (fun _ => Int64.ofInt 0)))), (q2 + 5, .inl (cy 1, 8, .inr (.inl (fun _ => Int64.ofInt 0)))), (q3, .inl (cy 0, 30, .inl (fun _ => Int32.ofInt 0))), (q4, .inl (cy 0, 14, .inl (fun _ => Int32.ofInt 0)))] H := hP
  have hD : va_D (va_A [(a0, .inr (4, bX4))] s.heap.size) [(a0, .inr (4, [.ref q1, .ref q2, .ref q3, .null, iv 0, jv 0])), (q1, .inl (cy 0, 10, .inl (fun _ => Int32.ofInt 0))), (q2, .inl (cy 4, 5, .inr (.inr (.inr (.inr (fun k => some (q2 + 1 + k))))))), (q2 + 1, .inl (cy 1, 8, .inr (.inl (fun _ => Int64.ofInt 0)))), (q2 + 2, .inl (cy 1, 8, .inr (.inl (fun _ => Int64.ofInt 0)))), (q2 + 3, .inl (cy 1, 8, .inr (.inl (fun _ => Int64.ofInt 0)))), (q2 + 4, .inl (cy 1, 8, .inr (.inl (fun _ => Int64.ofInt 0)))), (q2 + 5, .inl (cy 1, 8, .inr (.inl (fun _ => Int64.ofInt 0)))), (q3, .inl (cy 0, 30, .inl (fun _ => Int32.ofInt 0))), (q4, .inl (cy 0, 14, .inl (fun _ => Int32.ofInt 0)))] := hD
  refine Wputf F ff_X4_23 hK hP hD hS rfl rfl (Nat.le_of_ble_eq_true rfl) dX4_init_36 (fun H locs hP hD hS => ?_)
  have hP : va_P D vwCl [(a0, .inr (4, [.ref q1, .ref q2, .ref q3, .ref q4, iv 0, jv 0])), (q1, .inl (cy 0, 10, .inl (fun _ => Int32.ofInt 0))), (q2, .inl (cy 4, 5, .inr (.inr (.inr (.inr (fun k => some (q2 + 1 + k))))))), (q2 + 1, .inl (cy 1, 8, .inr (.inl (fun _ => Int64.ofInt 0)))), (q2 + 2, .inl (cy 1, 8, .inr (.inl (fun _ => Int64.ofInt 0)))), (q2 + 3, .inl (cy 1, 8, .inr (.inl (fun _ => Int64.ofInt 0)))), (q2 + 4, .inl (cy 1, 8, .inr (.inl (fun _ => Int64.ofInt 0)))), (q2 + 5, .inl (cy 1, 8, .inr (.inl (fun _ => Int64.ofInt 0)))), (q3, .inl (cy 0, 30, .inl (fun _ => Int32.ofInt 0))), (q4, .inl (cy 0, 14, .inl (fun _ => Int32.ofInt 0)))] H := hP
  have hD : va_D (va_A [(a0, .inr (4, bX4))] s.heap.size) [(a0, .inr (4, [.ref q1, .ref q2, .ref q3, .ref q4, iv 0, jv 0])), (q1, .inl (cy 0, 10, .inl (fun _ => Int32.ofInt 0))), (q2, .inl (cy 4, 5, .inr (.inr (.inr (.inr (fun k => some (q2 + 1 + k))))))), (q2 + 1, .inl (cy 1, 8, .inr (.inl (fun _ => Int64.ofInt 0)))), (q2 + 2, .inl (cy 1, 8, .inr (.inl (fun _ => Int64.ofInt 0)))), (q2 + 3, .inl (cy 1, 8, .inr (.inl (fun _ => Int64.ofInt 0)))), (q2 + 4, .inl (cy 1, 8, .inr (.inl (fun _ => Int64.ofInt 0)))), (q2 + 5, .inl (cy 1, 8, .inr (.inl (fun _ => Int64.ofInt 0)))), (q3, .inl (cy 0, 30, .inl (fun _ => Int32.ofInt 0))), (q4, .inl (cy 0, 14, .inl (fun _ => Int32.ofInt 0)))] := hD
  refine lv_aload_n hx hb dX4_init_39 rfl (lv_at hl 0 rfl) ?_
  refine lv_lconst hx hb dX4_init_40 (v := Int64.ofInt 1) rfl ?_
  refine Wputn F fp_X4_26 hK hP hD hS rfl rfl (Nat.le_of_ble_eq_true rfl) dX4_init_41 (fun H locs hP hD hS => ?_)
  have hP : va_P D vwCl [(a0, .inr (4, [.ref q1, .ref q2, .ref q3, .ref q4, iv 0, jv 1])), (q1, .inl (cy 0, 10, .inl (fun _ => Int32.ofInt 0))), (q2, .inl (cy 4, 5, .inr (.inr (.inr (.inr (fun k => some (q2 + 1 + k))))))), (q2 + 1, .inl (cy 1, 8, .inr (.inl (fun _ => Int64.ofInt 0)))), (q2 + 2, .inl (cy 1, 8, .inr (.inl (fun _ => Int64.ofInt 0)))), (q2 + 3, .inl (cy 1, 8, .inr (.inl (fun _ => Int64.ofInt 0)))), (q2 + 4, .inl (cy 1, 8, .inr (.inl (fun _ => Int64.ofInt 0)))), (q2 + 5, .inl (cy 1, 8, .inr (.inl (fun _ => Int64.ofInt 0)))), (q3, .inl (cy 0, 30, .inl (fun _ => Int32.ofInt 0))), (q4, .inl (cy 0, 14, .inl (fun _ => Int32.ofInt 0)))] H := hP
  have hD : va_D (va_A [(a0, .inr (4, bX4))] s.heap.size) [(a0, .inr (4, [.ref q1, .ref q2, .ref q3, .ref q4, iv 0, jv 1])), (q1, .inl (cy 0, 10, .inl (fun _ => Int32.ofInt 0))), (q2, .inl (cy 4, 5, .inr (.inr (.inr (.inr (fun k => some (q2 + 1 + k))))))), (q2 + 1, .inl (cy 1, 8, .inr (.inl (fun _ => Int64.ofInt 0)))), (q2 + 2, .inl (cy 1, 8, .inr (.inl (fun _ => Int64.ofInt 0)))), (q2 + 3, .inl (cy 1, 8, .inr (.inl (fun _ => Int64.ofInt 0)))), (q2 + 4, .inl (cy 1, 8, .inr (.inl (fun _ => Int64.ofInt 0)))), (q2 + 5, .inl (cy 1, 8, .inr (.inl (fun _ => Int64.ofInt 0)))), (q3, .inl (cy 0, 30, .inl (fun _ => Int32.ofInt 0))), (q4, .inl (cy 0, 14, .inl (fun _ => Int32.ofInt 0)))] := hD
  have eR : (fun k => some ((fun i => if i < 5 then ([a0, q1, q2, q3, q4] : List Nat).getD i 0 else q2 + 1 + (i - 5)) (5 + k))) = fun k => some (q2 + 1 + k) := funext fun k => by
    show some (if 5 + k < 5 then _ else q2 + 1 + (5 + k - 5)) = _
    rw [if_neg (by omega), show 5 + k - 5 = k by omega]
  refine Wret F (fun i => if i < 5 then ([a0, q1, q2, q3, q4] : List Nat).getD i 0 else q2 + 1 + (i - 5)) rfl rfl ?_ ?_ hS dX4_init_44
  · show va_P D vwCl (wShpF cy _ (fun k => some ((fun i => if i < 5 then ([a0, q1, q2, q3, q4] : List Nat).getD i 0 else q2 + 1 + (i - 5)) (5 + k)))) _
    rw [eR]
    exact hP.sub [0, 1, 2, 8, 9, 3, 4, 5, 6, 7] rfl
  · show va_D _ (wShpF cy _ (fun k => some ((fun i => if i < 5 then ([a0, q1, q2, q3, q4] : List Nat).getD i 0 else q2 + 1 + (i - 5)) (5 + k))))
    rw [eR]
    exact hD.sub [0, 1, 2, 8, 9, 3, 4, 5, 6, 7] (by decide) rfl
abbrev bX6 : List Value := [.null, .null, iv 0, iv 0]
abbrev wTri (cy : Nat → ClassId) (ad : Nat → Nat) : va_W := [(ad 0, .inr (6, [.ref (ad 1), .ref (ad 8), iv 0, iv 0]))] ++ wNet cy (fun i => ad (1 + i)) ++ wShp cy (fun i => ad (8 + i))
set_option maxHeartbeats 400000 in
theorem k_X6 (l : Launch) (D : va_G) (cy : Nat → ClassId) : CoMet l D cy yX6_init cX6_init 1 (rmc 2 17 213) 6 bX6 (wTri cy) 17 213 := by
  refine CoMet.of (own := RX6) (by decide) rfl rfl (by decide) ?_
  intro a0 p e s m args below meth c ls F hl hK hAO hP hD
  have hx := F.1
  have hb := F.2.1
  have hS : va_S (va_A [(a0, .inr (6, bX6))] s.heap.size) s.heap s.heap [] := va_S.rf
  have hA : ∀ q, s.heap.size ≤ q → va_A [(a0, .inr (6, bX6))] s.heap.size q := fun q h => Or.inr h
  generalize hH : s.heap = H at hP
  rw [hH] at hS
  subst hH
  refine lv_aload_n hx hb dX6_init_0 rfl (lv_at hl 0 rfl) ?_
  refine Woi F hl.1 oi_X6 (by decide) (by decide) dX6_init_1 ?_
  refine lv_aload_n hx hb dX6_init_4 rfl (lv_at hl 0 rfl) ?_
  refine Wsub (y := yX2_init) (ci := 2) (C := RX2) (T := TX2) (N := 12) (fs := bX2) F hl.1 rfl inbX2 tyX2 tyX2_ok (fun j hj => by match j, hj with | 0, _ => rfl | 1, _ => rfl | 2, _ => rfl | 3, _ => rfl | 4, _ => rfl | 5, _ => rfl | 6, _ => rfl | 7, _ => rfl | 8, _ => rfl | 9, _ => rfl | 10, _ => rfl | 11, _ => rfl | k + 12, h => exact absurd h (by omega)) cl_X6_9 in_X2 iz_X2 iz_X2 (Or.inr hAO.2.2.2.2.2.2.1) ci_X2 cc_X2 rfl ⟨by decide +kernel, by decide +kernel, by decide +kernel⟩ (k_X2 l D cy) rfl rfl ⟨Nat.le_of_ble_eq_true rfl, Nat.le_of_ble_eq_true rfl⟩ (Nat.le_of_ble_eq_true rfl) (Nat.le_of_ble_eq_true rfl) (Nat.le_of_ble_eq_true rfl) hK hAO hP hD hS hA dX6_init_5 dX6_init_8 dX6_init_9 (fun ad1 H locs hP hD hS => ?_)
  have hP : va_P D vwCl ([(a0, .inr (6, [.null, .null, iv 0, iv 0]))] ++ wNet cy ad1) H := hP
  have hD : va_D (va_A [(a0, .inr (6, bX6))] s.heap.size) ([(a0, .inr (6, [.null, .null, iv 0, iv 0]))] ++ wNet cy ad1) := hD
  refine Wputf F ff_X6_12 hK hP hD hS rfl rfl (Nat.le_of_ble_eq_true rfl) dX6_init_12 (fun H locs hP hD hS => ?_)
  have hP : va_P D vwCl ([(a0, .inr (6, [.ref (ad1 0), .null, iv 0, iv 0]))] ++ wNet cy ad1) H := hP
  have hD : va_D (va_A [(a0, .inr (6, bX6))] s.heap.size) ([(a0, .inr (6, [.ref (ad1 0), .null, iv 0, iv 0]))] ++ wNet cy ad1) := hD
  refine lv_aload_n hx hb dX6_init_15 rfl (lv_at hl 0 rfl) ?_
  refine Wsub (y := yX4_init) (ci := 4) (C := RX4) (T := TX4) (N := 6) (fs := bX4) F hl.1 rfl inbX4 tyX4 tyX4_ok (fun j hj => by match j, hj with | 0, _ => rfl | 1, _ => rfl | 2, _ => rfl | 3, _ => rfl | 4, _ => rfl | 5, _ => rfl | k + 6, h => exact absurd h (by omega)) cl_X6_18 in_X4 iz_X4 iz_X4 (Or.inr hAO.2.2.2.2.2.2.2.1) ci_X4 cc_X4 rfl ⟨by decide +kernel, by decide +kernel, by decide +kernel⟩ (k_X4 l D cy) rfl rfl ⟨Nat.le_of_ble_eq_true rfl, Nat.le_of_ble_eq_true rfl⟩ (Nat.le_of_ble_eq_true rfl) (Nat.le_of_ble_eq_true rfl) (Nat.le_of_ble_eq_true rfl) hK hAO hP hD hS hA dX6_init_16 dX6_init_19 dX6_init_20 (fun ad2 H locs hP hD hS => ?_)
  have hP : va_P D vwCl ([(a0, .inr (6, [.ref (ad1 0), .null, iv 0, iv 0]))] ++ wNet cy ad1 ++ wShp cy ad2) H := hP
  have hD : va_D (va_A [(a0, .inr (6, bX6))] s.heap.size) ([(a0, .inr (6, [.ref (ad1 0), .null, iv 0, iv 0]))] ++ wNet cy ad1 ++ wShp cy ad2) := hD
  refine Wputf F ff_X6_21 hK hP hD hS rfl rfl (Nat.le_of_ble_eq_true rfl) dX6_init_23 (fun H locs hP hD hS => ?_)
  have hP : va_P D vwCl ([(a0, .inr (6, [.ref (ad1 0), .ref (ad2 0), iv 0, iv 0]))] ++ wNet cy ad1 ++ wShp cy ad2) H := hP
  have hD : va_D (va_A [(a0, .inr (6, bX6))] s.heap.size) ([(a0, .inr (6, [.ref (ad1 0), .ref (ad2 0), iv 0, iv 0]))] ++ wNet cy ad1 ++ wShp cy ad2) := hD
  have eR : (fun k => some ((fun i => if i = 0 then a0 else if i < 8 then ad1 (i - 1) else ad2 (i - 8)) (8 + (5 + k)))) = fun k => some (ad2 (5 + k)) := funext fun k => by
    show some (if 8 + (5 + k) = 0 then _ else if 8 + (5 + k) < 8 then _ else ad2 (8 + (5 + k) - 8)) = _
    rw [if_neg (by omega), if_neg (by omega), show 8 + (5 + k) - 8 = 5 + k by omega]
  refine Wret F (fun i => if i = 0 then a0 else if i < 8 then ad1 (i - 1) else ad2 (i - 8)) rfl rfl ?_ ?_ hS dX6_init_26
  · show va_P D vwCl ([(a0, .inr (6, [.ref (ad1 0), .ref (ad2 0), iv 0, iv 0]))] ++ wNet cy ad1 ++ wShpF cy ad2 (fun k => some ((fun i => if i = 0 then a0 else if i < 8 then ad1 (i - 1) else ad2 (i - 8)) (8 + (5 + k))))) _
    rw [eR]
    exact hP
  · show va_D _ ([(a0, .inr (6, [.ref (ad1 0), .ref (ad2 0), iv 0, iv 0]))] ++ wNet cy ad1 ++ wShpF cy ad2 (fun k => some ((fun i => if i = 0 then a0 else if i < 8 then ad1 (i - 1) else ad2 (i - 8)) (8 + (5 + k)))))
    rw [eR]
    exact hD
