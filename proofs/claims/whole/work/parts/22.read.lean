/-! TextReader.addItem, takeItem, readInto -/
/-- what may have changed: the cells of S alone -/
def Fr (S : Nat → Prop) (h h' : Hp) : Prop := (∀ i, ¬ S i → ∀ j, h'.1 i j = h.1 i j) ∧ (∀ i, ¬ S i → ∀ j, h'.2.1 i j = h.2.1 i j) ∧ h'.2.2 = h.2.2
theorem Fr.rf {S : Nat → Prop} {h : Hp} : Fr S h h := ⟨fun _ _ _ => rfl, fun _ _ _ => rfl, rfl⟩
theorem Fr.tr {S T U : Nat → Prop} {h h' h'' : Hp} (a : Fr S h h') (b : Fr T h' h'') (hs : ∀ i, S i → U i) (ht : ∀ i, T i → U i) : Fr U h h'' := ⟨fun i q j => by rw [b.1 i (fun z => q (ht i z)) j, a.1 i (fun z => q (hs i z)) j], fun i q j => by rw [b.2.1 i (fun z => q (ht i z)) j, a.2.1 i (fun z => q (hs i z)) j], by rw [b.2.2, a.2.2]⟩
theorem Fr.up {S U : Nat → Prop} {h h' : Hp} (a : Fr S h h') (hs : ∀ i, S i → U i) : Fr U h h' := ⟨fun i q j => a.1 i (fun z => q (hs i z)) j, fun i q j => a.2.1 i (fun z => q (hs i z)) j, a.2.2⟩
def inN (n i : Nat) : Prop := n ≤ i ∧ i ≤ n + 6
noncomputable def cif {α : Type} (c : Prop) (a b : α) : α := @ite α c (Classical.propDecidable c) a b
theorem cif_t {α : Type} {c : Prop} {a b : α} (h : c) : cif c a b = a := if_pos h
theorem cif_f {α : Type} {c : Prop} {a b : α} (h : ¬ c) : cif c a b = b := if_neg h
noncomputable def item (c : Int) (f : Nat → Int) (v : Nv) : Option Nv :=
  if c = 102 then cif (okFix v (f 0) (f 1) (f 2)) (some (vFix v (f 0) (f 1) (f 2))) none
  else if c = 117 then cif (okFre v (f 0 - 9)) (some (vFre v (f 0 - 9))) none
  else if c = 115 then cif (okStr v (f 0) (f 1) (f 2) (f 3)) (some (vStr v (f 0).toNat (f 1).toNat (f 2) (f 3))) none
  else if c = 114 then cif (okRol (f 0) (f 1)) (some (vRol v (f 0) (f 1))) none else none
def aiPost (c : Int) (n : Nat) (h h' : Hp) (x : Int) : Prop := match item c (h.1 4) (cV h n) with
  | none => x = 0 ∧ h' = h
  | some v => x = 1 ∧ cV h' n = v ∧ NOk h' n ∧ Fr (inN n) h h'
theorem ai_s {c : Int} {n : Nat} {h h' : Hp} {v : Nv} (hi : item c (h.1 4) (cV h n) = some v) (h1 : cV h' n = v ∧ NOk h' n) (h2 : Fr (inN n) h h') : aiPost c n h h' 1 := by
  unfold aiPost
  rw [hi]
  exact ⟨rfl, h1.1, h1.2, h2⟩
theorem ai_n {c : Int} {n : Nat} {h : Hp} (hi : item c (h.1 4) (cV h n) = none) : aiPost c n h h 0 := by
  unfold aiPost
  rw [hi]
  exact ⟨rfl, rfl⟩
theorem cStr_VN' {h : Hp} {n : Nat} {a b q w : Int} (ok : NOk h n) (hk : okStr (cV h n) a b q w) (ha : 0 ≤ a) (hb : 0 ≤ b) (hw : 0 ≤ w) : cV (cStr h n a b q w) n = vStr (cV h n) a.toNat b.toNat q w ∧ NOk (cStr h n a b q w) n := by
  obtain ⟨x, rfl⟩ := Int.eq_ofNat_of_zero_le ha
  obtain ⟨y, rfl⟩ := Int.eq_ofNat_of_zero_le hb
  exact cStr_VN ok hk hw
theorem Fr_fix {h : Hp} {n : Nat} {x y z : Int} : Fr (inN n) h (cFix h n x y z) := ⟨fun i q j => by
  unfold inN at q
  simp only [cFix, hI_rd]
  rw [if_neg (by omega), if_neg (by omega), if_neg (by omega), if_neg (by omega), if_neg (by omega)], fun _ _ _ => rfl, rfl⟩
theorem Fr_fre {h : Hp} {n : Nat} {w : Int} : Fr (inN n) h (cFre h n w) := ⟨fun i q j => by
  unfold inN at q
  simp only [cFre, hI_rd]
  rw [if_neg (by omega), if_neg (by omega), if_neg (by omega)], fun _ _ _ => rfl, rfl⟩
theorem Fr_str {h : Hp} {n : Nat} {a b q w : Int} : Fr (inN n) h (cStr h n a b q w) := ⟨fun i z j => by
  unfold inN at z
  simp only [cStr, hI_rd]
  rw [if_neg (by omega), if_neg (by omega), if_neg (by omega), if_neg (by omega), if_neg (by omega), if_neg (by omega)], fun _ _ _ => rfl, rfl⟩
theorem Fr_rol {h : Hp} {n : Nat} {r e : Int} : Fr (inN n) h (cRol h n r e) := ⟨fun i q j => by
  unfold inN at q
  simp only [cRol, hI_rd]
  rw [if_neg (by omega), if_neg (by omega)], fun _ _ _ => rfl, rfl⟩
theorem Fr_clr {h : Hp} {n : Nat} : Fr (inN n) h (cClr h n) := ⟨fun i q j => cClr_o (fun e => q ⟨by omega, by omega⟩), fun _ _ _ => rfl, rfl⟩
theorem Fr_4 {h : Hp} {f : Nat → Int} : Fr (fun i => i = 4) h (h4 h f) := ⟨fun i q j => if_neg q, fun _ _ _ => rfl, rfl⟩
theorem c_addItem {h : Hp} {n : Nat} {c : Int} (hR : ROk h.2.2) (hn : isNet n) (ok : NOk h n) (hc : 0 ≤ c ∧ c ≤ 126) (hf : ∀ i, i < nOf c → 0 ≤ h.1 4 i ∧ h.1 4 i ≤ 99) : Ev mX5_addItem 3 0 (entL [.ref 3, .ref n, iv c] 3) [] h (PI (fun x h' => aiPost c n h h' x)) := by
  show Ev mX5_addItem 3 0 [some (.ref 3), some (.ref n), some (iv c)] [] h _
  refine Ev.iload_n dX5_addItem_0 (Eq.refl 1) rfl ?_
  rcases (by omega : (c ≠ 102 ∧ c ≠ 114 ∧ c ≠ 115 ∧ c ≠ 117) ∨ c = 102 ∨ c = 114 ∨ c = 115 ∨ c = 117) with c1 | c1 | c1 | c1 | c1
  · have hi : item c (h.1 4) (cV h n) = none := by unfold item; rw [if_neg (by omega), if_neg (by omega), if_neg (by omega), if_neg (by omega)]
    refine Ev.look (tgt := 127) (off := 126) dX5_addItem_1 (by decide) ⟨by omega, by omega⟩ (by simp only [Op.lookupswitch.offset_cons, Op.lookupswitch.offset]; repeat' split; all_goals omega) (by decide) ?_
    refine Ev.iconst dX5_addItem_127 (Eq.refl 128) ?_
    exact Ev.zret dX5_addItem_128 rfl (by first | exact bi01 _ | exact Or.inl rfl | exact Or.inr rfl | omega) (⟨_, rfl, ai_n hi⟩)
  · subst c1
    have f0 := hf 0 (by decide)
    have f1 := hf 1 (by decide)
    have f2 := hf 2 (by decide)
    have hi : item 102 (h.1 4) (cV h n) = cif (okFix (cV h n) (h.1 4 0) (h.1 4 1) (h.1 4 2)) (some (vFix (cV h n) (h.1 4 0) (h.1 4 1) (h.1 4 2))) none := rfl
    have c1 : (102 : Int) = 102 := rfl
    refine Ev.look (tgt := 44) (off := 43) dX5_addItem_1 (by decide) ⟨by omega, by omega⟩ (by rw [c1] <;> rfl) (by decide) ?_
    refine Ev.aload_n dX5_addItem_44 (Eq.refl 45) rfl ?_
    refine Ev.aload_n dX5_addItem_45 (Eq.refl 46) rfl ?_
    refine Ev.getR dX5_addItem_46 (Eq.refl 49) fg_X5_9 rfl rfl (rX5_0 hR) ?_
    refine Ev.iconst dX5_addItem_49 (Eq.refl 50) ?_
    refine Ev.iaload dX5_addItem_50 (Eq.refl 51) rfl rfl (by omega) (by decide) (show (0 : Int).toNat = 0 from rfl) ?_
    refine Ev.aload_n dX5_addItem_51 (Eq.refl 52) rfl ?_
    refine Ev.getR dX5_addItem_52 (Eq.refl 55) fg_X5_9 rfl rfl (rX5_0 hR) ?_
    refine Ev.iconst dX5_addItem_55 (Eq.refl 56) ?_
    refine Ev.iaload dX5_addItem_56 (Eq.refl 57) rfl rfl (by omega) (by decide) (show (1 : Int).toNat = 1 from rfl) ?_
    refine Ev.aload_n dX5_addItem_57 (Eq.refl 58) rfl ?_
    refine Ev.getR dX5_addItem_58 (Eq.refl 61) fg_X5_9 rfl rfl (rX5_0 hR) ?_
    refine Ev.iconst dX5_addItem_61 (Eq.refl 62) ?_
    refine Ev.iaload dX5_addItem_62 (Eq.refl 63) rfl rfl (by omega) (by decide) (show (2 : Int).toNat = 2 from rfl) ?_
    refine Ev.cv3P dX5_addItem_63 (Eq.refl 66) cw_X5_50 (Nat.le_of_ble_eq_true rfl) (by decide) (lyN0 (by assumption)) rfl rfl (Nat.le_of_ble_eq_true rfl) (c_addFixed hR (by assumption) (by assumption) (by omega) (by omega) (by omega)) (fun c63 => ?_) (fun c63 => ?_)
    · exact Ev.zret dX5_addItem_66 rfl (by first | exact bi01 _ | exact Or.inl rfl | exact Or.inr rfl | omega) (⟨_, rfl, by first | exact ai_s (hi.trans (cif_t c63)) (cFix_VN ok c63 f0.1 f1.1 f2.1) Fr_fix | exact ai_n (hi.trans (cif_f c63))⟩)
    · exact Ev.zret dX5_addItem_66 rfl (by first | exact bi01 _ | exact Or.inl rfl | exact Or.inr rfl | omega) (⟨_, rfl, by first | exact ai_s (hi.trans (cif_t c63)) (cFix_VN ok c63 f0.1 f1.1 f2.1) Fr_fix | exact ai_n (hi.trans (cif_f c63))⟩)
  · subst c1
    have f0 := hf 0 (by decide)
    have f1 := hf 1 (by decide)
    have hi : item 114 (h.1 4) (cV h n) = cif (okRol (h.1 4 0) (h.1 4 1)) (some (vRol (cV h n) (h.1 4 0) (h.1 4 1))) none := rfl
    have c1 : (114 : Int) = 114 := rfl
    refine Ev.look (tgt := 110) (off := 109) dX5_addItem_1 (by decide) ⟨by omega, by omega⟩ (by rw [c1] <;> rfl) (by decide) ?_
    refine Ev.aload_n dX5_addItem_110 (Eq.refl 111) rfl ?_
    refine Ev.aload_n dX5_addItem_111 (Eq.refl 112) rfl ?_
    refine Ev.getR dX5_addItem_112 (Eq.refl 115) fg_X5_9 rfl rfl (rX5_0 hR) ?_
    refine Ev.iconst dX5_addItem_115 (Eq.refl 116) ?_
    refine Ev.iaload dX5_addItem_116 (Eq.refl 117) rfl rfl (by omega) (by decide) (show (0 : Int).toNat = 0 from rfl) ?_
    refine Ev.aload_n dX5_addItem_117 (Eq.refl 118) rfl ?_
    refine Ev.getR dX5_addItem_118 (Eq.refl 121) fg_X5_9 rfl rfl (rX5_0 hR) ?_
    refine Ev.iconst dX5_addItem_121 (Eq.refl 122) ?_
    refine Ev.iaload dX5_addItem_122 (Eq.refl 123) rfl rfl (by omega) (by decide) (show (1 : Int).toNat = 1 from rfl) ?_
    refine Ev.cv2P dX5_addItem_123 (Eq.refl 126) cw_X5_61 (Nat.le_of_ble_eq_true rfl) (by decide) (lyN0 (by assumption)) rfl rfl (Nat.le_of_ble_eq_true rfl) (c_tellRolls (by assumption) (by omega) (by omega)) (fun c123 => ?_) (fun c123 => ?_)
    · exact Ev.zret dX5_addItem_126 rfl (by first | exact bi01 _ | exact Or.inl rfl | exact Or.inr rfl | omega) (⟨_, rfl, by first | exact ai_s (hi.trans (cif_t c123)) (cRol_VN ok c123 f1.1) Fr_rol | exact ai_n (hi.trans (cif_f c123))⟩)
    · exact Ev.zret dX5_addItem_126 rfl (by first | exact bi01 _ | exact Or.inl rfl | exact Or.inr rfl | omega) (⟨_, rfl, by first | exact ai_s (hi.trans (cif_t c123)) (cRol_VN ok c123 f1.1) Fr_rol | exact ai_n (hi.trans (cif_f c123))⟩)
  · subst c1
    have f0 := hf 0 (by decide)
    have f1 := hf 1 (by decide)
    have f2 := hf 2 (by decide)
    have f3 := hf 3 (by decide)
    have hi : item 115 (h.1 4) (cV h n) = cif (okStr (cV h n) (h.1 4 0) (h.1 4 1) (h.1 4 2) (h.1 4 3)) (some (vStr (cV h n) (h.1 4 0).toNat (h.1 4 1).toNat (h.1 4 2) (h.1 4 3))) none := rfl
    have c1 : (115 : Int) = 115 := rfl
    refine Ev.look (tgt := 81) (off := 80) dX5_addItem_1 (by decide) ⟨by omega, by omega⟩ (by rw [c1] <;> rfl) (by decide) ?_
    refine Ev.aload_n dX5_addItem_81 (Eq.refl 82) rfl ?_
    refine Ev.aload_n dX5_addItem_82 (Eq.refl 83) rfl ?_
    refine Ev.getR dX5_addItem_83 (Eq.refl 86) fg_X5_9 rfl rfl (rX5_0 hR) ?_
    refine Ev.iconst dX5_addItem_86 (Eq.refl 87) ?_
    refine Ev.iaload dX5_addItem_87 (Eq.refl 88) rfl rfl (by omega) (by decide) (show (0 : Int).toNat = 0 from rfl) ?_
    refine Ev.aload_n dX5_addItem_88 (Eq.refl 89) rfl ?_
    refine Ev.getR dX5_addItem_89 (Eq.refl 92) fg_X5_9 rfl rfl (rX5_0 hR) ?_
    refine Ev.iconst dX5_addItem_92 (Eq.refl 93) ?_
    refine Ev.iaload dX5_addItem_93 (Eq.refl 94) rfl rfl (by omega) (by decide) (show (1 : Int).toNat = 1 from rfl) ?_
    refine Ev.aload_n dX5_addItem_94 (Eq.refl 95) rfl ?_
    refine Ev.getR dX5_addItem_95 (Eq.refl 98) fg_X5_9 rfl rfl (rX5_0 hR) ?_
    refine Ev.iconst dX5_addItem_98 (Eq.refl 99) ?_
    refine Ev.iaload dX5_addItem_99 (Eq.refl 100) rfl rfl (by omega) (by decide) (show (2 : Int).toNat = 2 from rfl) ?_
    refine Ev.aload_n dX5_addItem_100 (Eq.refl 101) rfl ?_
    refine Ev.getR dX5_addItem_101 (Eq.refl 104) fg_X5_9 rfl rfl (rX5_0 hR) ?_
    refine Ev.iconst dX5_addItem_104 (Eq.refl 105) ?_
    refine Ev.iaload dX5_addItem_105 (Eq.refl 106) rfl rfl (by omega) (by decide) (show (3 : Int).toNat = 3 from rfl) ?_
    refine Ev.cv4P dX5_addItem_106 (Eq.refl 109) cw_X5_57 (Nat.le_of_ble_eq_true rfl) (by decide) (lyN0 (by assumption)) rfl rfl (Nat.le_of_ble_eq_true rfl) (c_addStrand hR (by assumption) (by assumption) (by omega) (by omega) (by omega) (by omega)) (fun c106 => ?_) (fun c106 => ?_)
    · exact Ev.zret dX5_addItem_109 rfl (by first | exact bi01 _ | exact Or.inl rfl | exact Or.inr rfl | omega) (⟨_, rfl, by first | exact ai_s (hi.trans (cif_t c106)) (cStr_VN' ok c106 f0.1 f1.1 f3.1) Fr_str | exact ai_n (hi.trans (cif_f c106))⟩)
    · exact Ev.zret dX5_addItem_109 rfl (by first | exact bi01 _ | exact Or.inl rfl | exact Or.inr rfl | omega) (⟨_, rfl, by first | exact ai_s (hi.trans (cif_t c106)) (cStr_VN' ok c106 f0.1 f1.1 f3.1) Fr_str | exact ai_n (hi.trans (cif_f c106))⟩)
  · subst c1
    have f0 := hf 0 (by decide)
    have hi : item 117 (h.1 4) (cV h n) = cif (okFre (cV h n) (h.1 4 0 - 9)) (some (vFre (cV h n) (h.1 4 0 - 9))) none := rfl
    have c1 : (117 : Int) = 117 := rfl
    refine Ev.look (tgt := 67) (off := 66) dX5_addItem_1 (by decide) ⟨by omega, by omega⟩ (by rw [c1] <;> rfl) (by decide) ?_
    refine Ev.aload_n dX5_addItem_67 (Eq.refl 68) rfl ?_
    refine Ev.aload_n dX5_addItem_68 (Eq.refl 69) rfl ?_
    refine Ev.getR dX5_addItem_69 (Eq.refl 72) fg_X5_9 rfl rfl (rX5_0 hR) ?_
    refine Ev.iconst dX5_addItem_72 (Eq.refl 73) ?_
    refine Ev.iaload dX5_addItem_73 (Eq.refl 74) rfl rfl (by omega) (by decide) (show (0 : Int).toNat = 0 from rfl) ?_
    refine Ev.bipush dX5_addItem_74 (Eq.refl 76) (by decide) ?_
    refine Ev.isub dX5_addItem_76 (Eq.refl 77) ?_
    refine Ev.cv1P dX5_addItem_77 (Eq.refl 80) cw_X5_54 (Nat.le_of_ble_eq_true rfl) (by decide) (lyN0 (by assumption)) rfl rfl (Nat.le_of_ble_eq_true rfl) (c_addFree hR (by assumption) (by assumption) (by omega)) (fun c77 => ?_) (fun c77 => ?_)
    · exact Ev.zret dX5_addItem_80 rfl (by first | exact bi01 _ | exact Or.inl rfl | exact Or.inr rfl | omega) (⟨_, rfl, by first | exact ai_s (hi.trans (cif_t c77)) (cFre_VN ok c77 (by omega)) Fr_fre | exact ai_n (hi.trans (cif_f c77))⟩)
    · exact Ev.zret dX5_addItem_80 rfl (by first | exact bi01 _ | exact Or.inl rfl | exact Or.inr rfl | omega) (⟨_, rfl, by first | exact ai_s (hi.trans (cif_t c77)) (cFre_VN ok c77 (by omega)) Fr_fre | exact ai_n (hi.trans (cif_f c77))⟩)
