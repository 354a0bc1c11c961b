/-! TextReader.addItem, takeItem, readInto -/
/-- what may have changed: the cells of S alone -/
def Fr (S : Nat → Prop) (h h' : Hp) : Prop := (∀ i, ¬ S i → ∀ j, h'.1 i j = h.1 i j) ∧ (∀ i, ¬ S i → ∀ j, h'.2.1 i j = h.2.1 i j) ∧ h'.2.2 = h.2.2
theorem Fr.rf {S : Nat → Prop} {h : Hp} : Fr S h h := ⟨fun _ _ _ => rfl, fun _ _ _ => rfl, rfl⟩
theorem Fr.tr {S T U : Nat → Prop} {h h' h'' : Hp} (a : Fr S h h') (b : Fr T h' h'') (hs : ∀ i, S i → U i) (ht : ∀ i, T i → U i) : Fr U h h'' := ⟨fun i q j => by rw [b.1 i (fun z => q (ht i z)) j, a.1 i (fun z => q (hs i z)) j], fun i q j => by rw [b.2.1 i (fun z => q (ht i z)) j, a.2.1 i (fun z => q (hs i z)) j], by rw [b.2.2, a.2.2]⟩
theorem Fr.up {S U : Nat → Prop} {h h' : Hp} (a : Fr S h h') (hs : ∀ i, S i → U i) : Fr U h h' := ⟨fun i q j => a.1 i (fun z => q (hs i z)) j, fun i q j => a.2.1 i (fun z => q (hs i z)) j, a.2.2⟩
def inN (n i : Nat) : Prop := n ≤ i ∧ i ≤ n + 6
noncomputable def cif {α : Type} (c : Prop) (a b : α) : α := @ite α c (Classical.propDecidable c) a b
theorem cif_t {α : Type} {c : Prop} {a b : α} (h : c) : cif c a b = a := if_pos h
theorem cif_f {α : Type} {c : Prop} {a b : α} (h : ¬ c) : cif c a b = b := if_neg h
noncomputable def item (c : Int) (f : Nat → Int) (v : Nv) : Option Nv :=
  if c = 102 then cif (okFix v (f 0) (f 1) (f 2)) (some (vFix v (f 0) (f 1) (f 2))) none
  else if c = 117 then cif (okFre v (f 0 - 9)) (some (vFre v (f 0 - 9))) none
  else if c = 115 then cif (okStr v (f 0) (f 1) (f 2) (f 3)) (some (vStr v (f 0).toNat (f 1).toNat (f 2) (f 3))) none
  else if c = 114 then cif (okRol (f 0) (f 1)) (some (vRol v (f 0) (f 1))) none else none
def aiPost (c : Int) (n : Nat) (h h' : Hp) (x : Int) : Prop := match item c (h.1 4) (cV h n) with
  | none => x = 0 ∧ h' = h
  | some v => x = 1 ∧ cV h' n = v ∧ NOk h' n ∧ Fr (inN n) h h'
theorem ai_s {c : Int} {n : Nat} {h h' : Hp} {v : Nv} (hi : item c (h.1 4) (cV h n) = some v) (h1 : cV h' n = v ∧ NOk h' n) (h2 : Fr (inN n) h h') : aiPost c n h h' 1 := by
  unfold aiPost
  rw [hi]
  exact ⟨rfl, h1.1, h1.2, h2⟩
theorem ai_n {c : Int} {n : Nat} {h : Hp} (hi : item c (h.1 4) (cV h n) = none) : aiPost c n h h 0 := by
  unfold aiPost
  rw [hi]
  exact ⟨rfl, rfl⟩
theorem cStr_VN' {h : Hp} {n : Nat} {a b q w : Int} (ok : NOk h n) (hk : okStr (cV h n) a b q w) (ha : 0 ≤ a) (hb : 0 ≤ b) (hw : 0 ≤ w) : cV (cStr h n a b q w) n = vStr (cV h n) a.toNat b.toNat q w ∧ NOk (cStr h n a b q w) n := by
  obtain ⟨x, rfl⟩ := Int.eq_ofNat_of_zero_le ha
  obtain ⟨y, rfl⟩ := Int.eq_ofNat_of_zero_le hb
  exact cStr_VN ok hk hw
theorem Fr_fix {h : Hp} {n : Nat} {x y z : Int} : Fr (inN n) h (cFix h n x y z) := ⟨fun i q j => by
  unfold inN at q
  simp only [cFix, hI_rd]
  rw [if_neg (by omega), if_neg (by omega), if_neg (by omega), if_neg (by omega), if_neg (by omega)], fun _ _ _ => rfl, rfl⟩
theorem Fr_fre {h : Hp} {n : Nat} {w : Int} : Fr (inN n) h (cFre h n w) := ⟨fun i q j => by
  unfold inN at q
  simp only [cFre, hI_rd]
  rw [if_neg (by omega), if_neg (by omega), if_neg (by omega)], fun _ _ _ => rfl, rfl⟩
theorem Fr_str {h : Hp} {n : Nat} {a b q w : Int} : Fr (inN n) h (cStr h n a b q w) := ⟨fun i z j => by
  unfold inN at z
  simp only [cStr, hI_rd]
  rw [if_neg (by omega), if_neg (by omega), if_neg (by omega), if_neg (by omega), if_neg (by omega), if_neg (by omega)], fun _ _ _ => rfl, rfl⟩
theorem Fr_rol {h : Hp} {n : Nat} {r e : Int} : Fr (inN n) h (cRol h n r e) := ⟨fun i q j => by
  unfold inN at q
  simp only [cRol, hI_rd]
  rw [if_neg (by omega), if_neg (by omega)], fun _ _ _ => rfl, rfl⟩
theorem Fr_clr {h : Hp} {n : Nat} : Fr (inN n) h (cClr h n) := ⟨fun i q j => cClr_o (fun e => q ⟨by omega, by omega⟩), fun _ _ _ => rfl, rfl⟩
theorem Fr_4 {h : Hp} {f : Nat → Int} : Fr (fun i => i = 4) h (h4 h f) := ⟨fun i q j => if_neg q, fun _ _ _ => rfl, rfl⟩
theorem c_addItem {h : Hp} {n : Nat} {c : Int} (hR : ROk h.2.2) (hn : isNet n) (ok : NOk h n) (hc : 0 ≤ c ∧ c ≤ 126) (hf : ∀ i, i < nOf c → 0 ≤ h.1 4 i ∧ h.1 4 i ≤ 99) : Ev mX5_addItem 3 0 (entL [.ref 3, .ref n, iv c] 3) [] h (PI (fun x h' => aiPost c n h h' x)) := by
  show Ev mX5_addItem 3 0 [some (.ref 3), some (.ref n), some (iv c)] [] h _
  refine Ev.iload_n dX5_addItem_0 (Eq.refl 1) rfl ?_
  rcases (by omega : (c ≠ 102 ∧ c ≠ 114 ∧ c ≠ 115 ∧ c ≠ 117) ∨ c = 102 ∨ c = 114 ∨ c = 115 ∨ c = 117) with c1 | c1 | c1 | c1 | c1
  · have hi : item c (h.1 4) (cV h n) = none := by unfold item; rw [if_neg (by omega), if_neg (by omega), if_neg (by omega), if_neg (by omega)]
    refine Ev.look (tgt := 127) (off := 126) dX5_addItem_1 (by decide) ⟨by omega, by omega⟩ (by simp only [Op.lookupswitch.offset_cons, Op.lookupswitch.offset]; repeat' split; all_goals omega) (by decide) ?_
    refine Ev.iconst dX5_addItem_127 (Eq.refl 128) ?_
    exact Ev.zret dX5_addItem_128 rfl (by first | exact bi01 _ | exact Or.inl rfl | exact Or.inr rfl | omega) (⟨_, rfl, ai_n hi⟩)
  · subst c1
    have f0 := hf 0 (by decide)
    have f1 := hf 1 (by decide)
    have f2 := hf 2 (by decide)
    have hi : item 102 (h.1 4) (cV h n) = cif (okFix (cV h n) (h.1 4 0) (h.1 4 1) (h.1 4 2)) (some (vFix (cV h n) (h.1 4 0) (h.1 4 1) (h.1 4 2))) none := rfl
    have c1 : (102 : Int) = 102 := rfl
    refine Ev.look (tgt := 44) (off := 43) dX5_addItem_1 (by decide) ⟨by omega, by omega⟩ (by rw [c1] <;> rfl) (by decide) ?_
    refine Ev.aload_n dX5_addItem_44 (Eq.refl 45) rfl ?_
    refine Ev.aload_n dX5_addItem_45 (Eq.refl 46) rfl ?_
    refine Ev.getR dX5_addItem_46 (Eq.refl 49) fg_X5_9 rfl rfl (rX5_0 hR) ?_
    refine Ev.iconst dX5_addItem_49 (Eq.refl 50) ?_
    refine Ev.iaload dX5_addItem_50 (Eq.refl 51) rfl rfl (by omega) (by decide) (show (0 : Int).toNat = 0 from rfl) ?_
    refine Ev.aload_n dX5_addItem_51 (Eq.refl 52) rfl ?_
    refine Ev.getR dX5_addItem_52 (Eq.refl 55) fg_X5_9 rfl rfl (rX5_0 hR) ?_
    refine Ev.iconst dX5_addItem_55 (Eq.refl 56) ?_
    refine Ev.iaload dX5_addItem_56 (Eq.refl 57) rfl rfl (by omega) (by decide) (show (1 : Int).toNat = 1 from rfl) ?_
    refine Ev.aload_n dX5_addItem_57 (Eq.refl 58) rfl ?_
    refine Ev.getR dX5_addItem_58 (Eq.refl 61) fg_X5_9 rfl rfl (rX5_0 hR) ?_
    refine Ev.iconst dX5_addItem_61 (Eq.refl 62) ?_
    refine Ev.iaload dX5_addItem_62 (Eq.refl 63) rfl rfl (by omega) (by decide) (show (2 : Int).toNat = 2 from rfl) ?_
    refine Ev.cv3P dX5_addItem_63 (Eq.refl 66) cw_X5_50 (Nat.le_of_ble_eq_true rfl) (by decide) (lyN0 (by assumption)) rfl rfl (Nat.le_of_ble_eq_true rfl) (c_addFixed hR (by assumption) (by assumption) (by omega) (by omega) (by omega)) (fun c63 => ?_) (fun c63 => ?_)
    · exact Ev.zret dX5_addItem_66 rfl (by first | exact bi01 _ | exact Or.inl rfl | exact Or.inr rfl | omega) (⟨_, rfl, by first | exact ai_s (hi.trans (cif_t c63)) (cFix_VN ok c63 f0.1 f1.1 f2.1) Fr_fix | exact ai_n (hi.trans (cif_f c63))⟩)
    · exact Ev.zret dX5_addItem_66 rfl (by first | exact bi01 _ | exact Or.inl rfl | exact Or.inr rfl | omega) (⟨_, rfl, by first | exact ai_s (hi.trans (cif_t c63)) (cFix_VN ok c63 f0.1 f1.1 f2.1) Fr_fix | exact ai_n (hi.trans (cif_f c63))⟩)
  · subst c1
    have f0 := hf 0 (by decide)
    have f1 := hf 1 (by decide)
    have hi : item 114 (h.1 4) (cV h n) = cif (okRol (h.1 4 0) (h.1 4 1)) (some (vRol (cV h n) (h.1 4 0) (h.1 4 1))) none := rfl
    have c1 : (114 : Int) = 114 := rfl
    refine Ev.look (tgt := 110) (off := 109) dX5_addItem_1 (by decide) ⟨by omega, by omega⟩ (by rw [c1] <;> rfl) (by decide) ?_
    refine Ev.aload_n dX5_addItem_110 (Eq.refl 111) rfl ?_
    refine Ev.aload_n dX5_addItem_111 (Eq.refl 112) rfl ?_
    refine Ev.getR dX5_addItem_112 (Eq.refl 115) fg_X5_9 rfl rfl (rX5_0 hR) ?_
    refine Ev.iconst dX5_addItem_115 (Eq.refl 116) ?_
    refine Ev.iaload dX5_addItem_116 (Eq.refl 117) rfl rfl (by omega) (by decide) (show (0 : Int).toNat = 0 from rfl) ?_
    refine Ev.aload_n dX5_addItem_117 (Eq.refl 118) rfl ?_
    refine Ev.getR dX5_addItem_118 (Eq.refl 121) fg_X5_9 rfl rfl (rX5_0 hR) ?_
    refine Ev.iconst dX5_addItem_121 (Eq.refl 122) ?_
    refine Ev.iaload dX5_addItem_122 (Eq.refl 123) rfl rfl (by omega) (by decide) (show (1 : Int).toNat = 1 from rfl) ?_
    refine Ev.cv2P dX5_addItem_123 (Eq.refl 126) cw_X5_61 (Nat.le_of_ble_eq_true rfl) (by decide) (lyN0 (by assumption)) rfl rfl (Nat.le_of_ble_eq_true rfl) (c_tellRolls (by assumption) (by omega) (by omega)) (fun c123 => ?_) (fun c123 => ?_)
    · exact Ev.zret dX5_addItem_126 rfl (by first | exact bi01 _ | exact Or.inl rfl | exact Or.inr rfl | omega) (⟨_, rfl, by first | exact ai_s (hi.trans (cif_t c123)) (cRol_VN ok c123 f1.1) Fr_rol | exact ai_n (hi.trans (cif_f c123))⟩)
    · exact Ev.zret dX5_addItem_126 rfl (by first | exact bi01 _ | exact Or.inl rfl | exact Or.inr rfl | omega) (⟨_, rfl, by first | exact ai_s (hi.trans (cif_t c123)) (cRol_VN ok c123 f1.1) Fr_rol | exact ai_n (hi.trans (cif_f c123))⟩)
  · subst c1
    have f0 := hf 0 (by decide)
    have f1 := hf 1 (by decide)
    have f2 := hf 2 (by decide)
    have f3 := hf 3 (by decide)
    have hi : item 115 (h.1 4) (cV h n) = cif (okStr (cV h n) (h.1 4 0) (h.1 4 1) (h.1 4 2) (h.1 4 3)) (some (vStr (cV h n) (h.1 4 0).toNat (h.1 4 1).toNat (h.1 4 2) (h.1 4 3))) none := rfl
    have c1 : (115 : Int) = 115 := rfl
    refine Ev.look (tgt := 81) (off := 80) dX5_addItem_1 (by decide) ⟨by omega, by omega⟩ (by rw [c1] <;> rfl) (by decide) ?_
    refine Ev.aload_n dX5_addItem_81 (Eq.refl 82) rfl ?_
    refine Ev.aload_n dX5_addItem_82 (Eq.refl 83) rfl ?_
    refine Ev.getR dX5_addItem_83 (Eq.refl 86) fg_X5_9 rfl rfl (rX5_0 hR) ?_
    refine Ev.iconst dX5_addItem_86 (Eq.refl 87) ?_
    refine Ev.iaload dX5_addItem_87 (Eq.refl 88) rfl rfl (by omega) (by decide) (show (0 : Int).toNat = 0 from rfl) ?_
    refine Ev.aload_n dX5_addItem_88 (Eq.refl 89) rfl ?_
    refine Ev.getR dX5_addItem_89 (Eq.refl 92) fg_X5_9 rfl rfl (rX5_0 hR) ?_
    refine Ev.iconst dX5_addItem_92 (Eq.refl 93) ?_
    refine Ev.iaload dX5_addItem_93 (Eq.refl 94) rfl rfl (by omega) (by decide) (show (1 : Int).toNat = 1 from rfl) ?_
    refine Ev.aload_n dX5_addItem_94 (Eq.refl 95) rfl ?_
    refine Ev.getR dX5_addItem_95 (Eq.refl 98) fg_X5_9 rfl rfl (rX5_0 hR) ?_
    refine Ev.iconst dX5_addItem_98 (Eq.refl 99) ?_
    refine Ev.iaload dX5_addItem_99 (Eq.refl 100) rfl rfl (by omega) (by decide) (show (2 : Int).toNat = 2 from rfl) ?_
    refine Ev.aload_n dX5_addItem_100 (Eq.refl 101) rfl ?_
    refine Ev.getR dX5_addItem_101 (Eq.refl 104) fg_X5_9 rfl rfl (rX5_0 hR) ?_
    refine Ev.iconst dX5_addItem_104 (Eq.refl 105) ?_
    refine Ev.iaload dX5_addItem_105 (Eq.refl 106) rfl rfl (by omega) (by decide) (show (3 : Int).toNat = 3 from rfl) ?_
    refine Ev.cv4P dX5_addItem_106 (Eq.refl 109) cw_X5_57 (Nat.le_of_ble_eq_true rfl) (by decide) (lyN0 (by assumption)) rfl rfl (Nat.le_of_ble_eq_true rfl) (c_addStrand hR (by assumption) (by assumption) (by omega) (by omega) (by omega) (by omega)) (fun c106 => ?_) (fun c106 => ?_)
    · exact Ev.zret dX5_addItem_109 rfl (by first | exact bi01 _ | exact Or.inl rfl | exact Or.inr rfl | omega) (⟨_, rfl, by first | exact ai_s (hi.trans (cif_t c106)) (cStr_VN' ok c106 f0.1 f1.1 f3.1) Fr_str | exact ai_n (hi.trans (cif_f c106))⟩)
    · exact Ev.zret dX5_addItem_109 rfl (by first | exact bi01 _ | exact Or.inl rfl | exact Or.inr rfl | omega) (⟨_, rfl, by first | exact ai_s (hi.trans (cif_t c106)) (cStr_VN' ok c106 f0.1 f1.1 f3.1) Fr_str | exact ai_n (hi.trans (cif_f c106))⟩)
  · subst c1
    have f0 := hf 0 (by decide)
    have hi : item 117 (h.1 4) (cV h n) = cif (okFre (cV h n) (h.1 4 0 - 9)) (some (vFre (cV h n) (h.1 4 0 - 9))) none := rfl
    have c1 : (117 : Int) = 117 := rfl
    refine Ev.look (tgt := 67) (off := 66) dX5_addItem_1 (by decide) ⟨by omega, by omega⟩ (by rw [c1] <;> rfl) (by decide) ?_
    refine Ev.aload_n dX5_addItem_67 (Eq.refl 68) rfl ?_
    refine Ev.aload_n dX5_addItem_68 (Eq.refl 69) rfl ?_
    refine Ev.getR dX5_addItem_69 (Eq.refl 72) fg_X5_9 rfl rfl (rX5_0 hR) ?_
    refine Ev.iconst dX5_addItem_72 (Eq.refl 73) ?_
    refine Ev.iaload dX5_addItem_73 (Eq.refl 74) rfl rfl (by omega) (by decide) (show (0 : Int).toNat = 0 from rfl) ?_
    refine Ev.bipush dX5_addItem_74 (Eq.refl 76) (by decide) ?_
    refine Ev.isub dX5_addItem_76 (Eq.refl 77) ?_
    refine Ev.cv1P dX5_addItem_77 (Eq.refl 80) cw_X5_54 (Nat.le_of_ble_eq_true rfl) (by decide) (lyN0 (by assumption)) rfl rfl (Nat.le_of_ble_eq_true rfl) (c_addFree hR (by assumption) (by assumption) (by omega)) (fun c77 => ?_) (fun c77 => ?_)
    · exact Ev.zret dX5_addItem_80 rfl (by first | exact bi01 _ | exact Or.inl rfl | exact Or.inr rfl | omega) (⟨_, rfl, by first | exact ai_s (hi.trans (cif_t c77)) (cFre_VN ok c77 (by omega)) Fr_fre | exact ai_n (hi.trans (cif_f c77))⟩)
    · exact Ev.zret dX5_addItem_80 rfl (by first | exact bi01 _ | exact Or.inl rfl | exact Or.inr rfl | omega) (⟨_, rfl, by first | exact ai_s (hi.trans (cif_t c77)) (cFre_VN ok c77 (by omega)) Fr_fre | exact ai_n (hi.trans (cif_f c77))⟩)
theorem item_congr {c : Int} {f g : Nat → Int} {v : Nv} (h : ∀ i, i < nOf c → f i = g i) : item c f v = item c g v := by
  unfold item
  by_cases h1 : c = 102
  · subst h1
    rw [if_pos rfl, if_pos rfl, h 0 (by decide), h 1 (by decide), h 2 (by decide)]
  · by_cases h2 : c = 117
    · subst h2
      rw [if_neg h1, if_neg h1, if_pos rfl, if_pos rfl, h 0 (by decide)]
    · by_cases h3 : c = 115
      · subst h3
        rw [if_neg h1, if_neg h1, if_neg h2, if_neg h2, if_pos rfl, if_pos rfl, h 0 (by decide), h 1 (by decide), h 2 (by decide), h 3 (by decide)]
      · by_cases h4 : c = 114
        · subst h4
          rw [if_neg h1, if_neg h1, if_neg h2, if_neg h2, if_neg h3, if_neg h3, if_pos rfl, if_pos rfl, h 0 (by decide), h 1 (by decide)]
        · rw [if_neg h1, if_neg h1, if_neg h2, if_neg h2, if_neg h3, if_neg h3, if_neg h4, if_neg h4]
noncomputable def pItem (t : Nat → Int) (L p : Nat) (v : Nv) : Option (Nat × Nv) := match pNs t L (nOf (tA t L p)) (p + 1) with
  | none => none
  | some r => match item (tA t L p) (fun i => r.1.getD i 0) v with
    | none => none
    | some w => some (r.2, w)
noncomputable def pAll (t : Nat → Int) (L : Nat) : Nat → Nat → Nv → Int × Nv
  | 0, _, v => (-4, v)
  | k + 1, p, v => if p < L then (match pItem t L p v with
    | none => ((p : Int), v)
    | some q => pAll t L k q.1 q.2) else (-4, v)
def tnA (t : Nat → Int) (L m p : Nat) (f' : Nat → Int) (x : Int) : Prop := match pNs t L m p with
  | none => x = -4
  | some r => x = (r.2 : Int) ∧ p < r.2 ∧ r.2 ≤ L ∧ ∀ i, i < m → f' i = r.1.getD i 0 ∧ 0 ≤ r.1.getD i 0 ∧ r.1.getD i 0 ≤ 99
theorem c_takeNumbersA {h : Hp} {t : Nat → Int} {L m p0 : Nat} (hR : ROk h.2.2) (hT : TX h t L) (hm : m ≤ 4) (hp : p0 ≤ L) : Ev mX5_takeNumbers 2 0 (entL [.ref 3, .ref 1, iv (p0 : Int), iv (m : Int)] 7) [] h (PI (fun x h' => ∃ f', h' = h4 h f' ∧ tnA t L m p0 f' x)) := by
  by_cases e : m = 0
  · subst e
    show Ev mX5_takeNumbers 2 0 [some (.ref 3), some (.ref 1), some (iv (p0 : Int)), some (iv ((0 : Nat) : Int)), none, none, none] [] h _
    refine Ev.iload_n dX5_takeNumbers_0 (Eq.refl 1) rfl ?_
    refine Ev.is4 dX5_takeNumbers_1 (Eq.refl 3) (by decide) rfl ?_
    refine Ev.iconst dX5_takeNumbers_3 (Eq.refl 4) ?_
    refine Ev.is5 dX5_takeNumbers_4 (Eq.refl 6) (by decide) rfl ?_
    refine Ev.iload dX5_takeNumbers_6 (Eq.refl 8) rfl ?_
    refine Ev.iload_n dX5_takeNumbers_8 (Eq.refl 9) rfl ?_
    refine Ev.icmp_ge (tgt := 112) dX5_takeNumbers_9 (Eq.refl 12) (by decide) ⟨by omega, by omega⟩ ⟨by omega, by omega⟩ (fun c9 => ?_) (fun c9 => ?_)
    · refine Ev.iload_n dX5_takeNumbers_112 (Eq.refl 113) rfl ?_
      refine Ev.if_le (tgt := 121) dX5_takeNumbers_113 (Eq.refl 116) (by decide) ⟨by omega, by omega⟩ (fun c113 => ?_) (fun c113 => ?_)
      · refine Ev.bipush dX5_takeNumbers_121 (Eq.refl 123) (by decide) ?_
        exact Ev.iret dX5_takeNumbers_123 rfl (⟨_, rfl, h.1 4, h4_id.symm, rfl⟩)
      · omega
    · omega
  · refine Ev.mono (c_takeNumbers hR hT (by omega) hp) ?_
    rintro v h' ⟨x, rfl, f', rfl, h1, h2⟩
    rw [if_neg (by omega)] at h2
    refine ⟨x, rfl, f', rfl, ?_⟩
    unfold tnA
    rw [Nat.sub_zero] at h2
    cases hr : pNs t L m p0 with
    | none => rw [hr] at h2; exact h2
    | some r =>
      rw [hr] at h2
      refine ⟨h2.1, h2.2.1, h2.2.2.1, fun i hi => ?_⟩
      have := h2.2.2.2 i hi
      rwa [Nat.zero_add] at this
theorem nOf_le (c : Int) : nOf c ≤ 4 := by
  unfold nOf
  repeat' split
  all_goals omega
def inR (n i : Nat) : Prop := i = 4 ∨ inN n i
def tiPost (t : Nat → Int) (L p n : Nat) (h h' : Hp) (x : Int) : Prop := Fr (inR n) h h' ∧ match pItem t L p (cV h n) with
  | none => x = -4
  | some q => x = (q.1 : Int) ∧ p < q.1 ∧ q.1 ≤ L ∧ cV h' n = q.2 ∧ NOk h' n
theorem same4 {h : Hp} {n : Nat} {f : Nat → Int} (hn : isNet n) : sameN (h4 h f) h n := fun i hi j => if_neg (by omega)
theorem ti_n1 {t : Nat → Int} {L p n : Nat} {h : Hp} {f : Nat → Int} (hp : pNs t L (nOf (tA t L p)) (p + 1) = none) : tiPost t L p n h (h4 h f) (-4) := by
  refine ⟨Fr_4.up (fun i e => Or.inl e), ?_⟩
  unfold pItem
  rw [hp]
theorem ti_n2 {t : Nat → Int} {L p n : Nat} {h : Hp} {f : Nat → Int} {r : List Int × Nat} (hp : pNs t L (nOf (tA t L p)) (p + 1) = some r) (hi : item (tA t L p) (fun i => r.1.getD i 0) (cV h n) = none) : tiPost t L p n h (h4 h f) (-4) := by
  refine ⟨Fr_4.up (fun i e => Or.inl e), ?_⟩
  unfold pItem
  rw [hp]
  simp only
  rw [hi]
  trivial
theorem ti_s {t : Nat → Int} {L p n : Nat} {h h' : Hp} {f : Nat → Int} {r : List Int × Nat} {w : Nv} (hp : pNs t L (nOf (tA t L p)) (p + 1) = some r) (hi : item (tA t L p) (fun i => r.1.getD i 0) (cV h n) = some w) (h1 : p + 1 < r.2) (h2 : r.2 ≤ L) (hv : cV h' n = w) (ok : NOk h' n) (hF : Fr (inN n) (h4 h f) h') : tiPost t L p n h h' (r.2 : Int) := by
  refine ⟨Fr_4.tr hF (fun i e => Or.inl e) (fun i e => Or.inr e), ?_⟩
  unfold pItem
  rw [hp]
  simp only
  rw [hi]
  exact ⟨rfl, by simp only; omega, h2, hv, ok⟩
theorem c_takeItem {h : Hp} {t : Nat → Int} {L p n : Nat} (hR : ROk h.2.2) (hn : isNet n) (ok : NOk h n) (hT : TX h t L) (hp : p < L) : Ev mX5_takeItem 4 0 (entL [.ref 3, .ref n, .ref 1, iv (p : Int)] 6) [] h (PI (fun x h' => tiPost t L p n h h' x)) := by
  show Ev mX5_takeItem 4 0 [some (.ref 3), some (.ref n), some (.ref 1), some (iv (p : Int)), none, none] [] h _
  have hL := hT.2.1
  have r0 := hT.r p
  have hN := nOf_le (tA t L p)
  refine Ev.aload_n dX5_takeItem_0 (Eq.refl 1) rfl ?_
  refine Ev.iload_n dX5_takeItem_1 (Eq.refl 2) rfl ?_
  refine Ev.cv1E dX5_takeItem_2 (Eq.refl 5) cw_X5_30 (Nat.le_of_ble_eq_true rfl) (by decide) rfl rfl rfl (Nat.le_of_ble_eq_true rfl) (c_at hR hT (by omega)) ?_
  rw [Int.toNat_natCast]
  refine Ev.is4 dX5_takeItem_5 (Eq.refl 7) (by decide) rfl ?_
  refine Ev.aload_n dX5_takeItem_7 (Eq.refl 8) rfl ?_
  refine Ev.aload_n dX5_takeItem_8 (Eq.refl 9) rfl ?_
  refine Ev.iload_n dX5_takeItem_9 (Eq.refl 10) rfl ?_
  refine Ev.iconst dX5_takeItem_10 (Eq.refl 11) ?_
  refine Ev.iadd dX5_takeItem_11 (Eq.refl 12) ?_
  refine Ev.aload_n dX5_takeItem_12 (Eq.refl 13) rfl ?_
  refine Ev.iload dX5_takeItem_13 (Eq.refl 15) rfl ?_
  refine Ev.cv1E dX5_takeItem_15 (Eq.refl 18) cw_X5_34 (Nat.le_of_ble_eq_true rfl) (by decide) rfl rfl rfl (Nat.le_of_ble_eq_true rfl) (c_numbersOf (by omega)) ?_
  refine Ev.cv3I dX5_takeItem_18 (Eq.refl 21) cw_X5_38 (Nat.le_of_ble_eq_true rfl) (by decide) rfl rfl rfl (Nat.le_of_ble_eq_true rfl) (c_takeNumbersA (p0 := p + 1) hR hT (by omega) (by omega)) (fun x18 g18 hp18 => ?_)
  obtain ⟨f, rfl, hx⟩ := hp18
  unfold tnA at hx
  have oks : NOk (h4 h f) n := (same4 hn).ok ok
  have eV : cV (h4 h f) n = cV h n := (same4 hn).V
  rcases hpn : pNs t L (nOf (tA t L p)) (p + 1) with _ | r
  · rw [hpn] at hx
    subst hx
    exact Ev.is5 dX5_takeItem_21 (Eq.refl 23) (by decide) rfl (Ev.iload dX5_takeItem_23 (Eq.refl 25) rfl (Ev.bipush dX5_takeItem_25 (Eq.refl 27) (by decide) (Ev.icmp_eq (tgt := 45) dX5_takeItem_27 (Eq.refl 30) (by decide) ⟨by omega, by omega⟩ ⟨by omega, by omega⟩ (fun _ => Ev.bipush dX5_takeItem_45 (Eq.refl 47) (by decide) (Ev.iret dX5_takeItem_47 rfl ⟨_, rfl, ti_n1 hpn⟩)) (fun c => absurd rfl c))))
  rw [hpn] at hx
  obtain ⟨rfl, g1, g2, g3⟩ := hx
  have hi : item (tA t L p) f (cV h n) = item (tA t L p) (fun i => r.1.getD i 0) (cV h n) := item_congr (fun i hi => (g3 i hi).1)
  refine Ev.is5 dX5_takeItem_21 (Eq.refl 23) (by decide) rfl ?_
  refine Ev.iload dX5_takeItem_23 (Eq.refl 25) rfl ?_
  refine Ev.bipush dX5_takeItem_25 (Eq.refl 27) (by decide) ?_
  refine Ev.icmp_eq (tgt := 45) dX5_takeItem_27 (Eq.refl 30) (by decide) ⟨by omega, by omega⟩ ⟨by omega, by omega⟩ (fun c27 => ?_) (fun c27 => ?_)
  · omega
  · refine Ev.aload_n dX5_takeItem_30 (Eq.refl 31) rfl ?_
    refine Ev.aload_n dX5_takeItem_31 (Eq.refl 32) rfl ?_
    refine Ev.iload dX5_takeItem_32 (Eq.refl 34) rfl ?_
    refine Ev.cv2I dX5_takeItem_34 (Eq.refl 37) cw_X5_42 (Nat.le_of_ble_eq_true rfl) (by decide) rfl rfl rfl (Nat.le_of_ble_eq_true rfl) (c_addItem (show ROk (h4 h f).2.2 from hR) hn oks (by omega) (fun i hi => by have := g3 i hi; show 0 ≤ f i ∧ f i ≤ 99; rw [this.1]; exact this.2)) (fun x34 g34 hp34 => ?_)
    unfold aiPost at hp34
    rw [show (h4 h f).1 4 = f from rfl, eV, hi] at hp34
    rcases hit : item (tA t L p) (fun i => r.1.getD i 0) (cV h n) with _ | w
    · rw [hit] at hp34
      obtain ⟨rfl, rfl⟩ := hp34
      exact Ev.if_eq (tgt := 45) dX5_takeItem_37 (Eq.refl 40) (by decide) ⟨by omega, by omega⟩ (fun _ => Ev.bipush dX5_takeItem_45 (Eq.refl 47) (by decide) (Ev.iret dX5_takeItem_47 rfl ⟨_, rfl, ti_n2 hpn hit⟩)) (fun c => absurd rfl c)
    rw [hit] at hp34
    obtain ⟨rfl, k1, k2, k3⟩ := hp34
    refine Ev.if_eq (tgt := 45) dX5_takeItem_37 (Eq.refl 40) (by decide) ⟨by omega, by omega⟩ (fun c37 => ?_) (fun c37 => ?_)
    · omega
    · refine Ev.iload dX5_takeItem_40 (Eq.refl 42) rfl ?_
      refine Ev.goto' (pc' := 47) dX5_takeItem_42 (by decide) ?_
      exact Ev.iret dX5_takeItem_47 rfl (⟨_, rfl, ti_s hpn hit g1 g2 k1 k2 k3⟩)
def riPost (t : Nat → Int) (L p n : Nat) (v : Nv) (h h' : Hp) (x : Int) : Prop := Fr (inR n) h h' ∧ ∀ k, L < p + k → x = (pAll t L k p v).1 ∧ (x = -4 → cV h' n = (pAll t L k p v).2 ∧ NOk h' n)
theorem c_readInto {h : Hp} {t : Nat → Int} {L n : Nat} (hR : ROk h.2.2) (hn : isNet n) (hT : TX h t L) : Ev mX5_readInto 5 0 (entL [.ref 3, .ref n, .ref 1] 5) [] h (PI (fun x h' => riPost t L 0 n v0 h h' x)) := by
  show Ev mX5_readInto 5 0 [some (.ref 3), some (.ref n), some (.ref 1), none, none] [] h _
  have hL := hT.2.1
  have LOOP : ∀ (m p : Nat) (g : Hp) (a : Option Value), L - p = m → p ≤ L → ROk g.2.2 → TX g t L → NOk g n → Ev mX5_readInto 5 6 [some (.ref 3), some (.ref n), some (.ref 1), some (iv (p : Int)), a] [] g (PI (fun x h' => riPost t L p n (cV g n) g h' x)) := by
    intro m
    induction m using Nat.strongRecOn with
    | ind m ih =>
      intro p g a hm hp hR hT ok
      have hT1 := hT.1
      refine Ev.iload_n dX5_readInto_6 (Eq.refl 7) rfl ?_
      refine Ev.aload_n dX5_readInto_7 (Eq.refl 8) rfl ?_
      refine Ev.getI dX5_readInto_8 (Eq.refl 11) fg_X5_20 rfl rfl ?_
      refine Ev.icmp_ge (tgt := 37) dX5_readInto_11 (Eq.refl 14) (by decide) ⟨by omega, by omega⟩ ⟨by omega, by omega⟩ (fun c11 => ?_) (fun c11 => ?_)
      · have e : ¬ p < L := by omega
        refine Ev.bipush dX5_readInto_37 (Eq.refl 39) (by decide) ?_
        exact Ev.iret dX5_readInto_39 rfl (⟨_, rfl, Fr.rf, fun k hk => by obtain ⟨j, rfl⟩ : ∃ j, k = j + 1 := ⟨k - 1, by omega⟩; unfold pAll; rw [if_neg e]; exact ⟨rfl, fun _ => ⟨rfl, ok⟩⟩⟩)
      · refine Ev.aload_n dX5_readInto_14 (Eq.refl 15) rfl ?_
        refine Ev.aload_n dX5_readInto_15 (Eq.refl 16) rfl ?_
        refine Ev.aload_n dX5_readInto_16 (Eq.refl 17) rfl ?_
        refine Ev.iload_n dX5_readInto_17 (Eq.refl 18) rfl ?_
        refine Ev.cv3I dX5_readInto_18 (Eq.refl 21) cw_X5_26 (Nat.le_of_ble_eq_true rfl) (by decide) rfl rfl rfl (Nat.le_of_ble_eq_true rfl) (c_takeItem hR hn ok hT (by omega)) (fun x18 g18 hp18 => ?_)
        obtain ⟨hF, hx⟩ := hp18
        have hR' : ROk g18.2.2 := by rw [hF.2.2]; exact hR
        have hT' : TX g18 t L := ⟨by rw [hF.1 1 (by unfold inR inN; omega)]; exact hT.1, hT.2.1, fun k hk => by rw [hF.1 2 (by unfold inR inN; omega)]; exact hT.2.2 k hk⟩
        have hxr : x18 = -4 ∨ ((p : Int) < x18 ∧ x18 ≤ L) := by cases hpi : pItem t L p (cV g n) with | none => rw [hpi] at hx; exact Or.inl hx | some q => rw [hpi] at hx; exact Or.inr ⟨by have := hx.2.1; have := hx.1; omega, by have := hx.2.2.1; have := hx.1; omega⟩
        refine Ev.is4 dX5_readInto_21 (Eq.refl 23) (by decide) rfl ?_
        refine Ev.iload dX5_readInto_23 (Eq.refl 25) rfl ?_
        refine Ev.iload_n dX5_readInto_25 (Eq.refl 26) rfl ?_
        refine Ev.icmp_gt (tgt := 31) dX5_readInto_26 (Eq.refl 29) (by decide) ⟨by omega, by omega⟩ ⟨by omega, by omega⟩ (fun c26 => ?_) (fun c26 => ?_)
        · rcases hpi : pItem t L p (cV g n) with _ | q
          · rw [hpi] at hx; omega
          rw [hpi] at hx
          obtain ⟨rfl, q1, q2, q3, q4⟩ := hx
          refine Ev.iload dX5_readInto_31 (Eq.refl 33) rfl ?_
          refine Ev.is3 dX5_readInto_33 (Eq.refl 34) (by decide) rfl ?_
          refine Ev.goto' (pc' := 6) dX5_readInto_34 (by decide) ?_
          refine Ev.mono (ih _ (by omega) q.1 _ _ rfl q2 hR' hT' q4) ?_
          rintro v h' ⟨x, rfl, hF2, hx⟩
          refine ⟨x, rfl, hF.tr hF2 (fun _ z => z) (fun _ z => z), fun k hk => ?_⟩
          obtain ⟨j, rfl⟩ : ∃ j, k = j + 1 := ⟨k - 1, by omega⟩
          unfold pAll
          rw [if_pos (show p < L by omega), hpi]
          have := hx j (by omega)
          rwa [q3] at this
        · have hpi : pItem t L p (cV g n) = none := by cases hpi : pItem t L p (cV g n) with | none => rfl | some q => rw [hpi] at hx; omega
          refine Ev.iload_n dX5_readInto_29 (Eq.refl 30) rfl ?_
          exact Ev.iret dX5_readInto_30 rfl (⟨_, rfl, hF, fun k hk => by obtain ⟨j, rfl⟩ : ∃ j, k = j + 1 := ⟨k - 1, by omega⟩; unfold pAll; rw [if_pos (show p < L by omega), hpi]; exact ⟨rfl, fun z => by omega⟩⟩)
  refine Ev.aload_n dX5_readInto_0 (Eq.refl 1) rfl ?_
  refine Ev.cv0V dX5_readInto_1 (Eq.refl 4) cw_X5_15 (Nat.le_of_ble_eq_true rfl) (by decide) (lyN0 (by assumption)) rfl rfl (Nat.le_of_ble_eq_true rfl) (c_clear (by assumption)) (fun g1 hp1 => ?_)
  subst hp1
  have hR' : ROk (cClr h n).2.2 := hR
  have hT' : TX (cClr h n) t L := ⟨by rw [cClr_o (by omega)]; exact hT.1, hT.2.1, fun k hk => by rw [cClr_o (by omega)]; exact hT.2.2 k hk⟩
  obtain ⟨eV, ok⟩ := cClr_VN (h := h) (n := n)
  refine Ev.iconst dX5_readInto_4 (Eq.refl 5) ?_
  refine Ev.is3 dX5_readInto_5 (Eq.refl 6) (by decide) rfl ?_
  refine Ev.mono (LOOP _ 0 _ _ rfl (Nat.zero_le _) hR' hT' ok) ?_
  rintro v h' ⟨x, rfl, hF, hx⟩
  rw [eV] at hx
  exact ⟨x, rfl, Fr_clr.tr hF (fun _ z => Or.inr z) (fun _ z => z), hx⟩
